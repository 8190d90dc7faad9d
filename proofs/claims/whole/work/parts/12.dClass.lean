/-! decode rows, by program (wip/lay.py) -/
theorem d_SR_init_0 : decode prog_1_method_1_code 0 = .ok (.aload_n 0, 1) := by decide +kernel
theorem d_SR_init_1 : decode prog_1_method_1_code 1 = .ok (.invokespecial 1, 3) := by decide +kernel
theorem d_SR_init_4 : decode prog_1_method_1_code 4 = .ok (.iload_n 1, 1) := by decide +kernel
theorem d_SR_init_5 : decode prog_1_method_1_code 5 = .ok (.iconst 1, 1) := by decide +kernel
theorem d_SR_init_6 : decode prog_1_method_1_code 6 = .ok (.if_icmp .lt 13, 3) := by decide +kernel
theorem d_SR_init_9 : decode prog_1_method_1_code 9 = .ok (.iload_n 1, 1) := by decide +kernel
theorem d_SR_init_10 : decode prog_1_method_1_code 10 = .ok (.bipush 20, 2) := by decide +kernel
theorem d_SR_init_12 : decode prog_1_method_1_code 12 = .ok (.if_icmp .gt 7, 3) := by decide +kernel
theorem d_SR_init_15 : decode prog_1_method_1_code 15 = .ok (.iload_n 1, 1) := by decide +kernel
theorem d_SR_init_16 : decode prog_1_method_1_code 16 = .ok (.goto 5, 3) := by decide +kernel
theorem d_SR_init_19 : decode prog_1_method_1_code 19 = .ok (.bipush 12, 2) := by decide +kernel
theorem d_SR_init_21 : decode prog_1_method_1_code 21 = .ok (.istore_n 2, 1) := by decide +kernel
theorem d_SR_init_22 : decode prog_1_method_1_code 22 = .ok (.aload_n 0, 1) := by decide +kernel
theorem d_SR_init_23 : decode prog_1_method_1_code 23 = .ok (.new 9, 3) := by decide +kernel
theorem d_SR_init_26 : decode prog_1_method_1_code 26 = .ok (.dup, 1) := by decide +kernel
theorem d_SR_init_27 : decode prog_1_method_1_code 27 = .ok (.iload_n 2, 1) := by decide +kernel
theorem d_SR_init_28 : decode prog_1_method_1_code 28 = .ok (.invokespecial 11, 3) := by decide +kernel
theorem d_SR_init_31 : decode prog_1_method_1_code 31 = .ok (.putfield 14, 3) := by decide +kernel
theorem d_SR_init_34 : decode prog_1_method_1_code 34 = .ok (.aload_n 0, 1) := by decide +kernel
theorem d_SR_init_35 : decode prog_1_method_1_code 35 = .ok (.new 18, 3) := by decide +kernel
theorem d_SR_init_38 : decode prog_1_method_1_code 38 = .ok (.dup, 1) := by decide +kernel
theorem d_SR_init_39 : decode prog_1_method_1_code 39 = .ok (.invokespecial 20, 3) := by decide +kernel
theorem d_SR_init_42 : decode prog_1_method_1_code 42 = .ok (.putfield 21, 3) := by decide +kernel
theorem d_SR_init_45 : decode prog_1_method_1_code 45 = .ok (.aload_n 0, 1) := by decide +kernel
theorem d_SR_init_46 : decode prog_1_method_1_code 46 = .ok (.new 25, 3) := by decide +kernel
theorem d_SR_init_49 : decode prog_1_method_1_code 49 = .ok (.dup, 1) := by decide +kernel
theorem d_SR_init_50 : decode prog_1_method_1_code 50 = .ok (.iload_n 2, 1) := by decide +kernel
theorem d_SR_init_51 : decode prog_1_method_1_code 51 = .ok (.invokespecial 27, 3) := by decide +kernel
theorem d_SR_init_54 : decode prog_1_method_1_code 54 = .ok (.putfield 28, 3) := by decide +kernel
theorem d_SR_init_57 : decode prog_1_method_1_code 57 = .ok (.aload_n 0, 1) := by decide +kernel
theorem d_SR_init_58 : decode prog_1_method_1_code 58 = .ok (.new 32, 3) := by decide +kernel
theorem d_SR_init_61 : decode prog_1_method_1_code 61 = .ok (.dup, 1) := by decide +kernel
theorem d_SR_init_62 : decode prog_1_method_1_code 62 = .ok (.iload_n 2, 1) := by decide +kernel
theorem d_SR_init_63 : decode prog_1_method_1_code 63 = .ok (.invokespecial 34, 3) := by decide +kernel
theorem d_SR_init_66 : decode prog_1_method_1_code 66 = .ok (.putfield 35, 3) := by decide +kernel
theorem d_SR_init_69 : decode prog_1_method_1_code 69 = .ok (.aload_n 0, 1) := by decide +kernel
theorem d_SR_init_70 : decode prog_1_method_1_code 70 = .ok (.new 39, 3) := by decide +kernel
theorem d_SR_init_73 : decode prog_1_method_1_code 73 = .ok (.dup, 1) := by decide +kernel
theorem d_SR_init_74 : decode prog_1_method_1_code 74 = .ok (.invokespecial 41, 3) := by decide +kernel
theorem d_SR_init_77 : decode prog_1_method_1_code 77 = .ok (.putfield 42, 3) := by decide +kernel
theorem d_SR_init_80 : decode prog_1_method_1_code 80 = .ok (.return_, 1) := by decide +kernel
theorem d_JA_fill_0 : decode prog_21_method_103_code 0 = .ok (.iconst 0, 1) := by decide +kernel
theorem d_JA_fill_1 : decode prog_21_method_103_code 1 = .ok (.istore_n 2, 1) := by decide +kernel
theorem d_JA_fill_2 : decode prog_21_method_103_code 2 = .ok (.aload_n 0, 1) := by decide +kernel
theorem d_JA_fill_3 : decode prog_21_method_103_code 3 = .ok (.arraylength, 1) := by decide +kernel
theorem d_JA_fill_4 : decode prog_21_method_103_code 4 = .ok (.istore_n 3, 1) := by decide +kernel
theorem d_JA_fill_5 : decode prog_21_method_103_code 5 = .ok (.iload_n 2, 1) := by decide +kernel
theorem d_JA_fill_6 : decode prog_21_method_103_code 6 = .ok (.iload_n 3, 1) := by decide +kernel
theorem d_JA_fill_7 : decode prog_21_method_103_code 7 = .ok (.if_icmp .ge 13, 3) := by decide +kernel
theorem d_JA_fill_10 : decode prog_21_method_103_code 10 = .ok (.aload_n 0, 1) := by decide +kernel
theorem d_JA_fill_11 : decode prog_21_method_103_code 11 = .ok (.iload_n 2, 1) := by decide +kernel
theorem d_JA_fill_12 : decode prog_21_method_103_code 12 = .ok (.iload_n 1, 1) := by decide +kernel
theorem d_JA_fill_13 : decode prog_21_method_103_code 13 = .ok (.iastore, 1) := by decide +kernel
theorem d_JA_fill_14 : decode prog_21_method_103_code 14 = .ok (.iinc 2 1, 3) := by decide +kernel
theorem d_JA_fill_17 : decode prog_21_method_103_code 17 = .ok (.goto (-12), 3) := by decide +kernel
theorem d_JA_fill_20 : decode prog_21_method_103_code 20 = .ok (.return_, 1) := by decide +kernel
theorem d_Notes_init_0 : decode prog_5_method_1_code 0 = .ok (.aload_n 0, 1) := by decide +kernel
theorem d_Notes_init_1 : decode prog_5_method_1_code 1 = .ok (.invokespecial 3, 3) := by decide +kernel
theorem d_Notes_init_4 : decode prog_5_method_1_code 4 = .ok (.aload_n 0, 1) := by decide +kernel
theorem d_Notes_init_5 : decode prog_5_method_1_code 5 = .ok (.bipush 40, 2) := by decide +kernel
theorem d_Notes_init_7 : decode prog_5_method_1_code 7 = .ok (.anewarray 9, 3) := by decide +kernel
theorem d_Notes_init_10 : decode prog_5_method_1_code 10 = .ok (.putfield 11, 3) := by decide +kernel
theorem d_Notes_init_13 : decode prog_5_method_1_code 13 = .ok (.return_, 1) := by decide +kernel
theorem d_Repeats_init_0 : decode prog_8_method_1_code 0 = .ok (.aload_n 0, 1) := by decide +kernel
theorem d_Repeats_init_1 : decode prog_8_method_1_code 1 = .ok (.invokespecial 3, 3) := by decide +kernel
theorem d_Repeats_init_4 : decode prog_8_method_1_code 4 = .ok (.aload_n 0, 1) := by decide +kernel
theorem d_Repeats_init_5 : decode prog_8_method_1_code 5 = .ok (.iload_n 1, 1) := by decide +kernel
theorem d_Repeats_init_6 : decode prog_8_method_1_code 6 = .ok (.anewarray 9, 3) := by decide +kernel
theorem d_Repeats_init_9 : decode prog_8_method_1_code 9 = .ok (.putfield 11, 3) := by decide +kernel
theorem d_Repeats_init_12 : decode prog_8_method_1_code 12 = .ok (.aload_n 0, 1) := by decide +kernel
theorem d_Repeats_init_13 : decode prog_8_method_1_code 13 = .ok (.iload_n 1, 1) := by decide +kernel
theorem d_Repeats_init_14 : decode prog_8_method_1_code 14 = .ok (.anewarray 9, 3) := by decide +kernel
theorem d_Repeats_init_17 : decode prog_8_method_1_code 17 = .ok (.putfield 17, 3) := by decide +kernel
theorem d_Repeats_init_20 : decode prog_8_method_1_code 20 = .ok (.aload_n 0, 1) := by decide +kernel
theorem d_Repeats_init_21 : decode prog_8_method_1_code 21 = .ok (.iload_n 1, 1) := by decide +kernel
theorem d_Repeats_init_22 : decode prog_8_method_1_code 22 = .ok (.anewarray 9, 3) := by decide +kernel
theorem d_Repeats_init_25 : decode prog_8_method_1_code 25 = .ok (.putfield 20, 3) := by decide +kernel
theorem d_Repeats_init_28 : decode prog_8_method_1_code 28 = .ok (.iconst 0, 1) := by decide +kernel
theorem d_Repeats_init_29 : decode prog_8_method_1_code 29 = .ok (.istore_n 2, 1) := by decide +kernel
theorem d_Repeats_init_30 : decode prog_8_method_1_code 30 = .ok (.iload_n 2, 1) := by decide +kernel
theorem d_Repeats_init_31 : decode prog_8_method_1_code 31 = .ok (.iload_n 1, 1) := by decide +kernel
theorem d_Repeats_init_32 : decode prog_8_method_1_code 32 = .ok (.if_icmp .ge 22, 3) := by decide +kernel
theorem d_Repeats_init_35 : decode prog_8_method_1_code 35 = .ok (.aload_n 0, 1) := by decide +kernel
theorem d_Repeats_init_36 : decode prog_8_method_1_code 36 = .ok (.getfield 11, 3) := by decide +kernel
theorem d_Repeats_init_39 : decode prog_8_method_1_code 39 = .ok (.iload_n 2, 1) := by decide +kernel
theorem d_Repeats_init_40 : decode prog_8_method_1_code 40 = .ok (.new 9, 3) := by decide +kernel
theorem d_Repeats_init_43 : decode prog_8_method_1_code 43 = .ok (.dup, 1) := by decide +kernel
theorem d_Repeats_init_44 : decode prog_8_method_1_code 44 = .ok (.invokespecial 23, 3) := by decide +kernel
theorem d_Repeats_init_47 : decode prog_8_method_1_code 47 = .ok (.aastore, 1) := by decide +kernel
theorem d_Repeats_init_48 : decode prog_8_method_1_code 48 = .ok (.iinc 2 1, 3) := by decide +kernel
theorem d_Repeats_init_51 : decode prog_8_method_1_code 51 = .ok (.goto (-21), 3) := by decide +kernel
theorem d_Repeats_init_54 : decode prog_8_method_1_code 54 = .ok (.return_, 1) := by decide +kernel
theorem d_Road_init_0 : decode prog_9_method_1_code 0 = .ok (.aload_n 0, 1) := by decide +kernel
theorem d_Road_init_1 : decode prog_9_method_1_code 1 = .ok (.invokespecial 3, 3) := by decide +kernel
theorem d_Road_init_4 : decode prog_9_method_1_code 4 = .ok (.aload_n 0, 1) := by decide +kernel
theorem d_Road_init_5 : decode prog_9_method_1_code 5 = .ok (.iload_n 1, 1) := by decide +kernel
theorem d_Road_init_6 : decode prog_9_method_1_code 6 = .ok (.bipush 12, 2) := by decide +kernel
theorem d_Road_init_8 : decode prog_9_method_1_code 8 = .ok (.imul, 1) := by decide +kernel
theorem d_Road_init_9 : decode prog_9_method_1_code 9 = .ok (.newarray .int, 2) := by decide +kernel
theorem d_Road_init_11 : decode prog_9_method_1_code 11 = .ok (.putfield 9, 3) := by decide +kernel
theorem d_Road_init_14 : decode prog_9_method_1_code 14 = .ok (.return_, 1) := by decide +kernel
theorem d_Sounding_init_0 : decode prog_10_method_1_code 0 = .ok (.aload_n 0, 1) := by decide +kernel
theorem d_Sounding_init_1 : decode prog_10_method_1_code 1 = .ok (.invokespecial 3, 3) := by decide +kernel
theorem d_Sounding_init_4 : decode prog_10_method_1_code 4 = .ok (.aload_n 0, 1) := by decide +kernel
theorem d_Sounding_init_5 : decode prog_10_method_1_code 5 = .ok (.sipush 480, 3) := by decide +kernel
theorem d_Sounding_init_8 : decode prog_10_method_1_code 8 = .ok (.anewarray 9, 3) := by decide +kernel
theorem d_Sounding_init_11 : decode prog_10_method_1_code 11 = .ok (.putfield 11, 3) := by decide +kernel
theorem d_Sounding_init_14 : decode prog_10_method_1_code 14 = .ok (.aload_n 0, 1) := by decide +kernel
theorem d_Sounding_init_15 : decode prog_10_method_1_code 15 = .ok (.sipush 480, 3) := by decide +kernel
theorem d_Sounding_init_18 : decode prog_10_method_1_code 18 = .ok (.newarray .int, 2) := by decide +kernel
theorem d_Sounding_init_20 : decode prog_10_method_1_code 20 = .ok (.putfield 17, 3) := by decide +kernel
theorem d_Sounding_init_23 : decode prog_10_method_1_code 23 = .ok (.aload_n 0, 1) := by decide +kernel
theorem d_Sounding_init_24 : decode prog_10_method_1_code 24 = .ok (.iconst (-1), 1) := by decide +kernel
theorem d_Sounding_init_25 : decode prog_10_method_1_code 25 = .ok (.putfield 21, 3) := by decide +kernel
theorem d_Sounding_init_28 : decode prog_10_method_1_code 28 = .ok (.return_, 1) := by decide +kernel
theorem d_SR_signAt_0 : decode prog_1_method_4_code 0 = .ok (.aload_n 0, 1) := by decide +kernel
theorem d_SR_signAt_1 : decode prog_1_method_4_code 1 = .ok (.getfield 14, 3) := by decide +kernel
theorem d_SR_signAt_4 : decode prog_1_method_4_code 4 = .ok (.iload_n 1, 1) := by decide +kernel
theorem d_SR_signAt_5 : decode prog_1_method_4_code 5 = .ok (.iload_n 2, 1) := by decide +kernel
theorem d_SR_signAt_6 : decode prog_1_method_4_code 6 = .ok (.invokevirtual 86, 3) := by decide +kernel
theorem d_SR_signAt_9 : decode prog_1_method_4_code 9 = .ok (.ireturn, 1) := by decide +kernel
theorem d_SR_check_0 : decode prog_1_method_7_code 0 = .ok (.aload_n 0, 1) := by decide +kernel
theorem d_SR_check_1 : decode prog_1_method_7_code 1 = .ok (.invokevirtual 140, 3) := by decide +kernel
theorem d_SR_check_4 : decode prog_1_method_7_code 4 = .ok (.aload_n 0, 1) := by decide +kernel
theorem d_SR_check_5 : decode prog_1_method_7_code 5 = .ok (.getfield 143, 3) := by decide +kernel
theorem d_SR_check_8 : decode prog_1_method_7_code 8 = .ok (.ireturn, 1) := by decide +kernel
theorem d_SR_knowRoad_0 : decode prog_1_method_19_code 0 = .ok (.aload_n 0, 1) := by decide +kernel
theorem d_SR_knowRoad_1 : decode prog_1_method_19_code 1 = .ok (.getfield 95, 3) := by decide +kernel
theorem d_SR_knowRoad_4 : decode prog_1_method_19_code 4 = .ok (.ifCond .eq 4, 3) := by decide +kernel
theorem d_SR_knowRoad_7 : decode prog_1_method_19_code 7 = .ok (.return_, 1) := by decide +kernel
theorem d_SR_knowRoad_8 : decode prog_1_method_19_code 8 = .ok (.aload_n 0, 1) := by decide +kernel
theorem d_SR_knowRoad_9 : decode prog_1_method_19_code 9 = .ok (.getfield 28, 3) := by decide +kernel
theorem d_SR_knowRoad_12 : decode prog_1_method_19_code 12 = .ok (.aload_n 0, 1) := by decide +kernel
theorem d_SR_knowRoad_13 : decode prog_1_method_19_code 13 = .ok (.getfield 14, 3) := by decide +kernel
theorem d_SR_knowRoad_16 : decode prog_1_method_19_code 16 = .ok (.invokevirtual 203, 3) := by decide +kernel
theorem d_SR_knowRoad_19 : decode prog_1_method_19_code 19 = .ok (.aload_n 0, 1) := by decide +kernel
theorem d_SR_knowRoad_20 : decode prog_1_method_19_code 20 = .ok (.aload_n 0, 1) := by decide +kernel
theorem d_SR_knowRoad_21 : decode prog_1_method_19_code 21 = .ok (.getfield 14, 3) := by decide +kernel
theorem d_SR_knowRoad_24 : decode prog_1_method_19_code 24 = .ok (.aload_n 0, 1) := by decide +kernel
theorem d_SR_knowRoad_25 : decode prog_1_method_19_code 25 = .ok (.getfield 28, 3) := by decide +kernel
theorem d_SR_knowRoad_28 : decode prog_1_method_19_code 28 = .ok (.invokestatic 207, 3) := by decide +kernel
theorem d_SR_knowRoad_31 : decode prog_1_method_19_code 31 = .ok (.putfield 143, 3) := by decide +kernel
theorem d_SR_knowRoad_34 : decode prog_1_method_19_code 34 = .ok (.aload_n 0, 1) := by decide +kernel
theorem d_SR_knowRoad_35 : decode prog_1_method_19_code 35 = .ok (.getfield 143, 3) := by decide +kernel
theorem d_SR_knowRoad_38 : decode prog_1_method_19_code 38 = .ok (.ifCond .ne 18, 3) := by decide +kernel
theorem d_SR_knowRoad_41 : decode prog_1_method_19_code 41 = .ok (.aload_n 0, 1) := by decide +kernel
theorem d_SR_knowRoad_42 : decode prog_1_method_19_code 42 = .ok (.getfield 35, 3) := by decide +kernel
theorem d_SR_knowRoad_45 : decode prog_1_method_19_code 45 = .ok (.aload_n 0, 1) := by decide +kernel
theorem d_SR_knowRoad_46 : decode prog_1_method_19_code 46 = .ok (.getfield 14, 3) := by decide +kernel
theorem d_SR_knowRoad_49 : decode prog_1_method_19_code 49 = .ok (.aload_n 0, 1) := by decide +kernel
theorem d_SR_knowRoad_50 : decode prog_1_method_19_code 50 = .ok (.getfield 28, 3) := by decide +kernel
theorem d_SR_knowRoad_53 : decode prog_1_method_19_code 53 = .ok (.invokevirtual 213, 3) := by decide +kernel
theorem d_SR_knowRoad_56 : decode prog_1_method_19_code 56 = .ok (.aload_n 0, 1) := by decide +kernel
theorem d_SR_knowRoad_57 : decode prog_1_method_19_code 57 = .ok (.iconst 1, 1) := by decide +kernel
theorem d_SR_knowRoad_58 : decode prog_1_method_19_code 58 = .ok (.putfield 95, 3) := by decide +kernel
theorem d_SR_knowRoad_61 : decode prog_1_method_19_code 61 = .ok (.return_, 1) := by decide +kernel
theorem d_Repeats_gather_0 : decode prog_8_method_2_code 0 = .ok (.aload_n 0, 1) := by decide +kernel
theorem d_Repeats_gather_1 : decode prog_8_method_2_code 1 = .ok (.iconst 0, 1) := by decide +kernel
theorem d_Repeats_gather_2 : decode prog_8_method_2_code 2 = .ok (.putfield 24, 3) := by decide +kernel
theorem d_Repeats_gather_5 : decode prog_8_method_2_code 5 = .ok (.iconst 0, 1) := by decide +kernel
theorem d_Repeats_gather_6 : decode prog_8_method_2_code 6 = .ok (.istore_n 2, 1) := by decide +kernel
theorem d_Repeats_gather_7 : decode prog_8_method_2_code 7 = .ok (.iload_n 2, 1) := by decide +kernel
theorem d_Repeats_gather_8 : decode prog_8_method_2_code 8 = .ok (.aload_n 0, 1) := by decide +kernel
theorem d_Repeats_gather_9 : decode prog_8_method_2_code 9 = .ok (.getfield 17, 3) := by decide +kernel
theorem d_Repeats_gather_12 : decode prog_8_method_2_code 12 = .ok (.arraylength, 1) := by decide +kernel
theorem d_Repeats_gather_13 : decode prog_8_method_2_code 13 = .ok (.if_icmp .ge 23, 3) := by decide +kernel
theorem d_Repeats_gather_16 : decode prog_8_method_2_code 16 = .ok (.aload_n 0, 1) := by decide +kernel
theorem d_Repeats_gather_17 : decode prog_8_method_2_code 17 = .ok (.getfield 17, 3) := by decide +kernel
theorem d_Repeats_gather_20 : decode prog_8_method_2_code 20 = .ok (.iload_n 2, 1) := by decide +kernel
theorem d_Repeats_gather_21 : decode prog_8_method_2_code 21 = .ok (.aconst_null, 1) := by decide +kernel
theorem d_Repeats_gather_22 : decode prog_8_method_2_code 22 = .ok (.aastore, 1) := by decide +kernel
theorem d_Repeats_gather_23 : decode prog_8_method_2_code 23 = .ok (.aload_n 0, 1) := by decide +kernel
theorem d_Repeats_gather_24 : decode prog_8_method_2_code 24 = .ok (.getfield 20, 3) := by decide +kernel
theorem d_Repeats_gather_27 : decode prog_8_method_2_code 27 = .ok (.iload_n 2, 1) := by decide +kernel
theorem d_Repeats_gather_28 : decode prog_8_method_2_code 28 = .ok (.aconst_null, 1) := by decide +kernel
theorem d_Repeats_gather_29 : decode prog_8_method_2_code 29 = .ok (.aastore, 1) := by decide +kernel
theorem d_Repeats_gather_30 : decode prog_8_method_2_code 30 = .ok (.iinc 2 1, 3) := by decide +kernel
theorem d_Repeats_gather_33 : decode prog_8_method_2_code 33 = .ok (.goto (-26), 3) := by decide +kernel
theorem d_Repeats_gather_36 : decode prog_8_method_2_code 36 = .ok (.aload_n 0, 1) := by decide +kernel
theorem d_Repeats_gather_37 : decode prog_8_method_2_code 37 = .ok (.aload_n 1, 1) := by decide +kernel
theorem d_Repeats_gather_38 : decode prog_8_method_2_code 38 = .ok (.invokevirtual 28, 3) := by decide +kernel
theorem d_Repeats_gather_41 : decode prog_8_method_2_code 41 = .ok (.iconst 0, 1) := by decide +kernel
theorem d_Repeats_gather_42 : decode prog_8_method_2_code 42 = .ok (.istore_n 2, 1) := by decide +kernel
theorem d_Repeats_gather_43 : decode prog_8_method_2_code 43 = .ok (.iload_n 2, 1) := by decide +kernel
theorem d_Repeats_gather_44 : decode prog_8_method_2_code 44 = .ok (.aload_n 0, 1) := by decide +kernel
theorem d_Repeats_gather_45 : decode prog_8_method_2_code 45 = .ok (.getfield 24, 3) := by decide +kernel
theorem d_Repeats_gather_48 : decode prog_8_method_2_code 48 = .ok (.if_icmp .ge 20, 3) := by decide +kernel
theorem d_Repeats_gather_51 : decode prog_8_method_2_code 51 = .ok (.aload_n 0, 1) := by decide +kernel
theorem d_Repeats_gather_52 : decode prog_8_method_2_code 52 = .ok (.aload_n 1, 1) := by decide +kernel
theorem d_Repeats_gather_53 : decode prog_8_method_2_code 53 = .ok (.aload_n 0, 1) := by decide +kernel
theorem d_Repeats_gather_54 : decode prog_8_method_2_code 54 = .ok (.getfield 11, 3) := by decide +kernel
theorem d_Repeats_gather_57 : decode prog_8_method_2_code 57 = .ok (.iload_n 2, 1) := by decide +kernel
theorem d_Repeats_gather_58 : decode prog_8_method_2_code 58 = .ok (.aaload, 1) := by decide +kernel
theorem d_Repeats_gather_59 : decode prog_8_method_2_code 59 = .ok (.invokevirtual 32, 3) := by decide +kernel
theorem d_Repeats_gather_62 : decode prog_8_method_2_code 62 = .ok (.iinc 2 1, 3) := by decide +kernel
theorem d_Repeats_gather_65 : decode prog_8_method_2_code 65 = .ok (.goto (-22), 3) := by decide +kernel
theorem d_Repeats_gather_68 : decode prog_8_method_2_code 68 = .ok (.return_, 1) := by decide +kernel
theorem d_Repeats_gatherEnds_0 : decode prog_8_method_3_code 0 = .ok (.aconst_null, 1) := by decide +kernel
theorem d_Repeats_gatherEnds_1 : decode prog_8_method_3_code 1 = .ok (.astore_n 2, 1) := by decide +kernel
theorem d_Repeats_gatherEnds_2 : decode prog_8_method_3_code 2 = .ok (.iconst 0, 1) := by decide +kernel
theorem d_Repeats_gatherEnds_3 : decode prog_8_method_3_code 3 = .ok (.istore_n 3, 1) := by decide +kernel
theorem d_Repeats_gatherEnds_4 : decode prog_8_method_3_code 4 = .ok (.iload_n 3, 1) := by decide +kernel
theorem d_Repeats_gatherEnds_5 : decode prog_8_method_3_code 5 = .ok (.aload_n 0, 1) := by decide +kernel
theorem d_Repeats_gatherEnds_6 : decode prog_8_method_3_code 6 = .ok (.getfield 17, 3) := by decide +kernel
theorem d_Repeats_gatherEnds_9 : decode prog_8_method_3_code 9 = .ok (.arraylength, 1) := by decide +kernel
theorem d_Repeats_gatherEnds_10 : decode prog_8_method_3_code 10 = .ok (.if_icmp .ge 84, 3) := by decide +kernel
theorem d_Repeats_gatherEnds_13 : decode prog_8_method_3_code 13 = .ok (.aload_n 1, 1) := by decide +kernel
theorem d_Repeats_gatherEnds_14 : decode prog_8_method_3_code 14 = .ok (.iload_n 3, 1) := by decide +kernel
theorem d_Repeats_gatherEnds_15 : decode prog_8_method_3_code 15 = .ok (.iconst 1, 1) := by decide +kernel
theorem d_Repeats_gatherEnds_16 : decode prog_8_method_3_code 16 = .ok (.invokevirtual 36, 3) := by decide +kernel
theorem d_Repeats_gatherEnds_19 : decode prog_8_method_3_code 19 = .ok (.ifCond .eq 69, 3) := by decide +kernel
theorem d_Repeats_gatherEnds_22 : decode prog_8_method_3_code 22 = .ok (.aload_n 0, 1) := by decide +kernel
theorem d_Repeats_gatherEnds_23 : decode prog_8_method_3_code 23 = .ok (.getfield 24, 3) := by decide +kernel
theorem d_Repeats_gatherEnds_26 : decode prog_8_method_3_code 26 = .ok (.aload_n 0, 1) := by decide +kernel
theorem d_Repeats_gatherEnds_27 : decode prog_8_method_3_code 27 = .ok (.getfield 11, 3) := by decide +kernel
theorem d_Repeats_gatherEnds_30 : decode prog_8_method_3_code 30 = .ok (.arraylength, 1) := by decide +kernel
theorem d_Repeats_gatherEnds_31 : decode prog_8_method_3_code 31 = .ok (.if_icmp .ge 57, 3) := by decide +kernel
theorem d_Repeats_gatherEnds_34 : decode prog_8_method_3_code 34 = .ok (.aload_n 2, 1) := by decide +kernel
theorem d_Repeats_gatherEnds_35 : decode prog_8_method_3_code 35 = .ok (.ifnonnull 14, 3) := by decide +kernel
theorem d_Repeats_gatherEnds_38 : decode prog_8_method_3_code 38 = .ok (.aload_n 0, 1) := by decide +kernel
theorem d_Repeats_gatherEnds_39 : decode prog_8_method_3_code 39 = .ok (.aload_n 1, 1) := by decide +kernel
theorem d_Repeats_gatherEnds_40 : decode prog_8_method_3_code 40 = .ok (.iconst 0, 1) := by decide +kernel
theorem d_Repeats_gatherEnds_41 : decode prog_8_method_3_code 41 = .ok (.iload_n 3, 1) := by decide +kernel
theorem d_Repeats_gatherEnds_42 : decode prog_8_method_3_code 42 = .ok (.invokevirtual 42, 3) := by decide +kernel
theorem d_Repeats_gatherEnds_45 : decode prog_8_method_3_code 45 = .ok (.astore_n 2, 1) := by decide +kernel
theorem d_Repeats_gatherEnds_46 : decode prog_8_method_3_code 46 = .ok (.goto 30, 3) := by decide +kernel
theorem d_Repeats_gatherEnds_49 : decode prog_8_method_3_code 49 = .ok (.aload_n 1, 1) := by decide +kernel
theorem d_Repeats_gatherEnds_50 : decode prog_8_method_3_code 50 = .ok (.aload_n 2, 1) := by decide +kernel
theorem d_Repeats_gatherEnds_51 : decode prog_8_method_3_code 51 = .ok (.getfield 46, 3) := by decide +kernel
theorem d_Repeats_gatherEnds_54 : decode prog_8_method_3_code 54 = .ok (.iconst 1, 1) := by decide +kernel
theorem d_Repeats_gatherEnds_55 : decode prog_8_method_3_code 55 = .ok (.iadd, 1) := by decide +kernel
theorem d_Repeats_gatherEnds_56 : decode prog_8_method_3_code 56 = .ok (.iload_n 3, 1) := by decide +kernel
theorem d_Repeats_gatherEnds_57 : decode prog_8_method_3_code 57 = .ok (.invokestatic 49, 3) := by decide +kernel
theorem d_Repeats_gatherEnds_60 : decode prog_8_method_3_code 60 = .ok (.ifCond .ne 16, 3) := by decide +kernel
theorem d_Repeats_gatherEnds_63 : decode prog_8_method_3_code 63 = .ok (.aload_n 0, 1) := by decide +kernel
theorem d_Repeats_gatherEnds_64 : decode prog_8_method_3_code 64 = .ok (.aload_n 1, 1) := by decide +kernel
theorem d_Repeats_gatherEnds_65 : decode prog_8_method_3_code 65 = .ok (.aload_n 2, 1) := by decide +kernel
theorem d_Repeats_gatherEnds_66 : decode prog_8_method_3_code 66 = .ok (.getfield 46, 3) := by decide +kernel
theorem d_Repeats_gatherEnds_69 : decode prog_8_method_3_code 69 = .ok (.iconst 1, 1) := by decide +kernel
theorem d_Repeats_gatherEnds_70 : decode prog_8_method_3_code 70 = .ok (.iadd, 1) := by decide +kernel
theorem d_Repeats_gatherEnds_71 : decode prog_8_method_3_code 71 = .ok (.iload_n 3, 1) := by decide +kernel
theorem d_Repeats_gatherEnds_72 : decode prog_8_method_3_code 72 = .ok (.invokevirtual 42, 3) := by decide +kernel
theorem d_Repeats_gatherEnds_75 : decode prog_8_method_3_code 75 = .ok (.astore_n 2, 1) := by decide +kernel
theorem d_Repeats_gatherEnds_76 : decode prog_8_method_3_code 76 = .ok (.aload_n 2, 1) := by decide +kernel
theorem d_Repeats_gatherEnds_77 : decode prog_8_method_3_code 77 = .ok (.iload_n 3, 1) := by decide +kernel
theorem d_Repeats_gatherEnds_78 : decode prog_8_method_3_code 78 = .ok (.putfield 46, 3) := by decide +kernel
theorem d_Repeats_gatherEnds_81 : decode prog_8_method_3_code 81 = .ok (.aload_n 0, 1) := by decide +kernel
theorem d_Repeats_gatherEnds_82 : decode prog_8_method_3_code 82 = .ok (.getfield 17, 3) := by decide +kernel
theorem d_Repeats_gatherEnds_85 : decode prog_8_method_3_code 85 = .ok (.iload_n 3, 1) := by decide +kernel
theorem d_Repeats_gatherEnds_86 : decode prog_8_method_3_code 86 = .ok (.aload_n 2, 1) := by decide +kernel
theorem d_Repeats_gatherEnds_87 : decode prog_8_method_3_code 87 = .ok (.aastore, 1) := by decide +kernel
theorem d_Repeats_gatherEnds_88 : decode prog_8_method_3_code 88 = .ok (.iinc 3 1, 3) := by decide +kernel
theorem d_Repeats_gatherEnds_91 : decode prog_8_method_3_code 91 = .ok (.goto (-87), 3) := by decide +kernel
theorem d_Repeats_gatherEnds_94 : decode prog_8_method_3_code 94 = .ok (.return_, 1) := by decide +kernel
theorem d_Repeats_begin_0 : decode prog_8_method_5_code 0 = .ok (.aload_n 1, 1) := by decide +kernel
theorem d_Repeats_begin_1 : decode prog_8_method_5_code 1 = .ok (.iconst 0, 1) := by decide +kernel
theorem d_Repeats_begin_2 : decode prog_8_method_5_code 2 = .ok (.iload_n 2, 1) := by decide +kernel
theorem d_Repeats_begin_3 : decode prog_8_method_5_code 3 = .ok (.iload_n 3, 1) := by decide +kernel
theorem d_Repeats_begin_4 : decode prog_8_method_5_code 4 = .ok (.invokevirtual 53, 3) := by decide +kernel
theorem d_Repeats_begin_7 : decode prog_8_method_5_code 7 = .ok (.istore 4, 2) := by decide +kernel
theorem d_Repeats_begin_9 : decode prog_8_method_5_code 9 = .ok (.aload_n 0, 1) := by decide +kernel
theorem d_Repeats_begin_10 : decode prog_8_method_5_code 10 = .ok (.getfield 11, 3) := by decide +kernel
theorem d_Repeats_begin_13 : decode prog_8_method_5_code 13 = .ok (.aload_n 0, 1) := by decide +kernel
theorem d_Repeats_begin_14 : decode prog_8_method_5_code 14 = .ok (.getfield 24, 3) := by decide +kernel
theorem d_Repeats_begin_17 : decode prog_8_method_5_code 17 = .ok (.aaload, 1) := by decide +kernel
theorem d_Repeats_begin_18 : decode prog_8_method_5_code 18 = .ok (.astore 5, 2) := by decide +kernel
theorem d_Repeats_begin_20 : decode prog_8_method_5_code 20 = .ok (.aload 5, 2) := by decide +kernel
theorem d_Repeats_begin_22 : decode prog_8_method_5_code 22 = .ok (.iload 4, 2) := by decide +kernel
theorem d_Repeats_begin_24 : decode prog_8_method_5_code 24 = .ok (.iconst (-1), 1) := by decide +kernel
theorem d_Repeats_begin_25 : decode prog_8_method_5_code 25 = .ok (.if_icmp .ne 7, 3) := by decide +kernel
theorem d_Repeats_begin_28 : decode prog_8_method_5_code 28 = .ok (.iload_n 2, 1) := by decide +kernel
theorem d_Repeats_begin_29 : decode prog_8_method_5_code 29 = .ok (.goto 5, 3) := by decide +kernel
theorem d_Repeats_begin_32 : decode prog_8_method_5_code 32 = .ok (.iload 4, 2) := by decide +kernel
theorem d_Repeats_begin_34 : decode prog_8_method_5_code 34 = .ok (.putfield 57, 3) := by decide +kernel
theorem d_Repeats_begin_37 : decode prog_8_method_5_code 37 = .ok (.aload 5, 2) := by decide +kernel
theorem d_Repeats_begin_39 : decode prog_8_method_5_code 39 = .ok (.iload_n 3, 1) := by decide +kernel
theorem d_Repeats_begin_40 : decode prog_8_method_5_code 40 = .ok (.putfield 60, 3) := by decide +kernel
theorem d_Repeats_begin_43 : decode prog_8_method_5_code 43 = .ok (.aload 5, 2) := by decide +kernel
theorem d_Repeats_begin_45 : decode prog_8_method_5_code 45 = .ok (.iconst (-1), 1) := by decide +kernel
theorem d_Repeats_begin_46 : decode prog_8_method_5_code 46 = .ok (.putfield 63, 3) := by decide +kernel
theorem d_Repeats_begin_49 : decode prog_8_method_5_code 49 = .ok (.aload 5, 2) := by decide +kernel
theorem d_Repeats_begin_51 : decode prog_8_method_5_code 51 = .ok (.iconst (-1), 1) := by decide +kernel
theorem d_Repeats_begin_52 : decode prog_8_method_5_code 52 = .ok (.putfield 66, 3) := by decide +kernel
theorem d_Repeats_begin_55 : decode prog_8_method_5_code 55 = .ok (.aload 5, 2) := by decide +kernel
theorem d_Repeats_begin_57 : decode prog_8_method_5_code 57 = .ok (.aload_n 1, 1) := by decide +kernel
theorem d_Repeats_begin_58 : decode prog_8_method_5_code 58 = .ok (.iload_n 3, 1) := by decide +kernel
theorem d_Repeats_begin_59 : decode prog_8_method_5_code 59 = .ok (.iconst 1, 1) := by decide +kernel
theorem d_Repeats_begin_60 : decode prog_8_method_5_code 60 = .ok (.invokevirtual 69, 3) := by decide +kernel
theorem d_Repeats_begin_63 : decode prog_8_method_5_code 63 = .ok (.putfield 73, 3) := by decide +kernel
theorem d_Repeats_begin_66 : decode prog_8_method_5_code 66 = .ok (.aload_n 0, 1) := by decide +kernel
theorem d_Repeats_begin_67 : decode prog_8_method_5_code 67 = .ok (.dup, 1) := by decide +kernel
theorem d_Repeats_begin_68 : decode prog_8_method_5_code 68 = .ok (.getfield 24, 3) := by decide +kernel
theorem d_Repeats_begin_71 : decode prog_8_method_5_code 71 = .ok (.iconst 1, 1) := by decide +kernel
theorem d_Repeats_begin_72 : decode prog_8_method_5_code 72 = .ok (.iadd, 1) := by decide +kernel
theorem d_Repeats_begin_73 : decode prog_8_method_5_code 73 = .ok (.putfield 24, 3) := by decide +kernel
theorem d_Repeats_begin_76 : decode prog_8_method_5_code 76 = .ok (.aload 5, 2) := by decide +kernel
theorem d_Repeats_begin_78 : decode prog_8_method_5_code 78 = .ok (.areturn, 1) := by decide +kernel
theorem d_Repeats_goesOn_0 : decode prog_8_method_4_code 0 = .ok (.aload_n 0, 1) := by decide +kernel
theorem d_Repeats_goesOn_1 : decode prog_8_method_4_code 1 = .ok (.iload_n 1, 1) := by decide +kernel
theorem d_Repeats_goesOn_2 : decode prog_8_method_4_code 2 = .ok (.iconst 2, 1) := by decide +kernel
theorem d_Repeats_goesOn_3 : decode prog_8_method_4_code 3 = .ok (.invokevirtual 36, 3) := by decide +kernel
theorem d_Repeats_goesOn_6 : decode prog_8_method_4_code 6 = .ok (.ifCond .eq 18, 3) := by decide +kernel
theorem d_Repeats_goesOn_9 : decode prog_8_method_4_code 9 = .ok (.aload_n 0, 1) := by decide +kernel
theorem d_Repeats_goesOn_10 : decode prog_8_method_4_code 10 = .ok (.iconst 0, 1) := by decide +kernel
theorem d_Repeats_goesOn_11 : decode prog_8_method_4_code 11 = .ok (.iload_n 1, 1) := by decide +kernel
theorem d_Repeats_goesOn_12 : decode prog_8_method_4_code 12 = .ok (.iload_n 2, 1) := by decide +kernel
theorem d_Repeats_goesOn_13 : decode prog_8_method_4_code 13 = .ok (.invokevirtual 53, 3) := by decide +kernel
theorem d_Repeats_goesOn_16 : decode prog_8_method_4_code 16 = .ok (.iconst (-1), 1) := by decide +kernel
theorem d_Repeats_goesOn_17 : decode prog_8_method_4_code 17 = .ok (.if_icmp .ne 7, 3) := by decide +kernel
theorem d_Repeats_goesOn_20 : decode prog_8_method_4_code 20 = .ok (.iconst 1, 1) := by decide +kernel
theorem d_Repeats_goesOn_21 : decode prog_8_method_4_code 21 = .ok (.goto 4, 3) := by decide +kernel
theorem d_Repeats_goesOn_24 : decode prog_8_method_4_code 24 = .ok (.iconst 0, 1) := by decide +kernel
theorem d_Repeats_goesOn_25 : decode prog_8_method_4_code 25 = .ok (.ireturn, 1) := by decide +kernel
theorem d_Repeats_gatherEndings_0 : decode prog_8_method_6_code 0 = .ok (.aload_n 2, 1) := by decide +kernel
theorem d_Repeats_gatherEndings_1 : decode prog_8_method_6_code 1 = .ok (.getfield 57, 3) := by decide +kernel
theorem d_Repeats_gatherEndings_4 : decode prog_8_method_6_code 4 = .ok (.istore_n 3, 1) := by decide +kernel
theorem d_Repeats_gatherEndings_5 : decode prog_8_method_6_code 5 = .ok (.iload_n 3, 1) := by decide +kernel
theorem d_Repeats_gatherEndings_6 : decode prog_8_method_6_code 6 = .ok (.aload_n 2, 1) := by decide +kernel
theorem d_Repeats_gatherEndings_7 : decode prog_8_method_6_code 7 = .ok (.getfield 60, 3) := by decide +kernel
theorem d_Repeats_gatherEndings_10 : decode prog_8_method_6_code 10 = .ok (.if_icmp .gt 16, 3) := by decide +kernel
theorem d_Repeats_gatherEndings_13 : decode prog_8_method_6_code 13 = .ok (.aload_n 0, 1) := by decide +kernel
theorem d_Repeats_gatherEndings_14 : decode prog_8_method_6_code 14 = .ok (.aload_n 1, 1) := by decide +kernel
theorem d_Repeats_gatherEndings_15 : decode prog_8_method_6_code 15 = .ok (.aload_n 2, 1) := by decide +kernel
theorem d_Repeats_gatherEndings_16 : decode prog_8_method_6_code 16 = .ok (.iload_n 3, 1) := by decide +kernel
theorem d_Repeats_gatherEndings_17 : decode prog_8_method_6_code 17 = .ok (.invokevirtual 76, 3) := by decide +kernel
theorem d_Repeats_gatherEndings_20 : decode prog_8_method_6_code 20 = .ok (.iinc 3 1, 3) := by decide +kernel
theorem d_Repeats_gatherEndings_23 : decode prog_8_method_6_code 23 = .ok (.goto (-18), 3) := by decide +kernel
theorem d_Repeats_gatherEndings_26 : decode prog_8_method_6_code 26 = .ok (.aload_n 2, 1) := by decide +kernel
theorem d_Repeats_gatherEndings_27 : decode prog_8_method_6_code 27 = .ok (.invokevirtual 80, 3) := by decide +kernel
theorem d_Repeats_gatherEndings_30 : decode prog_8_method_6_code 30 = .ok (.ifCond .ne 4, 3) := by decide +kernel
theorem d_Repeats_gatherEndings_33 : decode prog_8_method_6_code 33 = .ok (.return_, 1) := by decide +kernel
theorem d_Repeats_gatherEndings_34 : decode prog_8_method_6_code 34 = .ok (.aload_n 2, 1) := by decide +kernel
theorem d_Repeats_gatherEndings_35 : decode prog_8_method_6_code 35 = .ok (.getfield 60, 3) := by decide +kernel
theorem d_Repeats_gatherEndings_38 : decode prog_8_method_6_code 38 = .ok (.istore_n 3, 1) := by decide +kernel
theorem d_Repeats_gatherEndings_39 : decode prog_8_method_6_code 39 = .ok (.iload_n 3, 1) := by decide +kernel
theorem d_Repeats_gatherEndings_40 : decode prog_8_method_6_code 40 = .ok (.aload_n 2, 1) := by decide +kernel
theorem d_Repeats_gatherEndings_41 : decode prog_8_method_6_code 41 = .ok (.getfield 46, 3) := by decide +kernel
theorem d_Repeats_gatherEndings_44 : decode prog_8_method_6_code 44 = .ok (.if_icmp .gt 27, 3) := by decide +kernel
theorem d_Repeats_gatherEndings_47 : decode prog_8_method_6_code 47 = .ok (.aload_n 0, 1) := by decide +kernel
theorem d_Repeats_gatherEndings_48 : decode prog_8_method_6_code 48 = .ok (.iload_n 3, 1) := by decide +kernel
theorem d_Repeats_gatherEndings_49 : decode prog_8_method_6_code 49 = .ok (.invokevirtual 84, 3) := by decide +kernel
theorem d_Repeats_gatherEndings_52 : decode prog_8_method_6_code 52 = .ok (.aload_n 2, 1) := by decide +kernel
theorem d_Repeats_gatherEndings_53 : decode prog_8_method_6_code 53 = .ok (.if_acmp .ne 12, 3) := by decide +kernel
theorem d_Repeats_gatherEndings_56 : decode prog_8_method_6_code 56 = .ok (.aload_n 0, 1) := by decide +kernel
theorem d_Repeats_gatherEndings_57 : decode prog_8_method_6_code 57 = .ok (.aload_n 1, 1) := by decide +kernel
theorem d_Repeats_gatherEndings_58 : decode prog_8_method_6_code 58 = .ok (.aload_n 2, 1) := by decide +kernel
theorem d_Repeats_gatherEndings_59 : decode prog_8_method_6_code 59 = .ok (.iload_n 3, 1) := by decide +kernel
theorem d_Repeats_gatherEndings_60 : decode prog_8_method_6_code 60 = .ok (.iconst 1, 1) := by decide +kernel
theorem d_Repeats_gatherEndings_61 : decode prog_8_method_6_code 61 = .ok (.iadd, 1) := by decide +kernel
theorem d_Repeats_gatherEndings_62 : decode prog_8_method_6_code 62 = .ok (.invokevirtual 76, 3) := by decide +kernel
theorem d_Repeats_gatherEndings_65 : decode prog_8_method_6_code 65 = .ok (.iinc 3 1, 3) := by decide +kernel
theorem d_Repeats_gatherEndings_68 : decode prog_8_method_6_code 68 = .ok (.goto (-29), 3) := by decide +kernel
theorem d_Repeats_gatherEndings_71 : decode prog_8_method_6_code 71 = .ok (.return_, 1) := by decide +kernel
theorem d_Repeats_takeEnding_0 : decode prog_8_method_7_code 0 = .ok (.aload_n 1, 1) := by decide +kernel
theorem d_Repeats_takeEnding_1 : decode prog_8_method_7_code 1 = .ok (.iload_n 3, 1) := by decide +kernel
theorem d_Repeats_takeEnding_2 : decode prog_8_method_7_code 2 = .ok (.iconst 2, 1) := by decide +kernel
theorem d_Repeats_takeEnding_3 : decode prog_8_method_7_code 3 = .ok (.invokevirtual 36, 3) := by decide +kernel
theorem d_Repeats_takeEnding_6 : decode prog_8_method_7_code 6 = .ok (.ifCond .eq 36, 3) := by decide +kernel
theorem d_Repeats_takeEnding_9 : decode prog_8_method_7_code 9 = .ok (.aload_n 0, 1) := by decide +kernel
theorem d_Repeats_takeEnding_10 : decode prog_8_method_7_code 10 = .ok (.getfield 20, 3) := by decide +kernel
theorem d_Repeats_takeEnding_13 : decode prog_8_method_7_code 13 = .ok (.iload_n 3, 1) := by decide +kernel
theorem d_Repeats_takeEnding_14 : decode prog_8_method_7_code 14 = .ok (.aaload, 1) := by decide +kernel
theorem d_Repeats_takeEnding_15 : decode prog_8_method_7_code 15 = .ok (.ifnonnull 27, 3) := by decide +kernel
theorem d_Repeats_takeEnding_18 : decode prog_8_method_7_code 18 = .ok (.aload_n 0, 1) := by decide +kernel
theorem d_Repeats_takeEnding_19 : decode prog_8_method_7_code 19 = .ok (.getfield 20, 3) := by decide +kernel
theorem d_Repeats_takeEnding_22 : decode prog_8_method_7_code 22 = .ok (.iload_n 3, 1) := by decide +kernel
theorem d_Repeats_takeEnding_23 : decode prog_8_method_7_code 23 = .ok (.aload_n 2, 1) := by decide +kernel
theorem d_Repeats_takeEnding_24 : decode prog_8_method_7_code 24 = .ok (.aastore, 1) := by decide +kernel
theorem d_Repeats_takeEnding_25 : decode prog_8_method_7_code 25 = .ok (.aload_n 2, 1) := by decide +kernel
theorem d_Repeats_takeEnding_26 : decode prog_8_method_7_code 26 = .ok (.iload_n 3, 1) := by decide +kernel
theorem d_Repeats_takeEnding_27 : decode prog_8_method_7_code 27 = .ok (.putfield 66, 3) := by decide +kernel
theorem d_Repeats_takeEnding_30 : decode prog_8_method_7_code 30 = .ok (.aload_n 2, 1) := by decide +kernel
theorem d_Repeats_takeEnding_31 : decode prog_8_method_7_code 31 = .ok (.invokevirtual 80, 3) := by decide +kernel
theorem d_Repeats_takeEnding_34 : decode prog_8_method_7_code 34 = .ok (.ifCond .ne 8, 3) := by decide +kernel
theorem d_Repeats_takeEnding_37 : decode prog_8_method_7_code 37 = .ok (.aload_n 2, 1) := by decide +kernel
theorem d_Repeats_takeEnding_38 : decode prog_8_method_7_code 38 = .ok (.iload_n 3, 1) := by decide +kernel
theorem d_Repeats_takeEnding_39 : decode prog_8_method_7_code 39 = .ok (.putfield 63, 3) := by decide +kernel
theorem d_Repeats_takeEnding_42 : decode prog_8_method_7_code 42 = .ok (.return_, 1) := by decide +kernel
theorem d_Repeats_ofEnd_0 : decode prog_8_method_8_code 0 = .ok (.iload_n 1, 1) := by decide +kernel
theorem d_Repeats_ofEnd_1 : decode prog_8_method_8_code 1 = .ok (.ifCond .lt 21, 3) := by decide +kernel
theorem d_Repeats_ofEnd_4 : decode prog_8_method_8_code 4 = .ok (.iload_n 1, 1) := by decide +kernel
theorem d_Repeats_ofEnd_5 : decode prog_8_method_8_code 5 = .ok (.aload_n 0, 1) := by decide +kernel
theorem d_Repeats_ofEnd_6 : decode prog_8_method_8_code 6 = .ok (.getfield 17, 3) := by decide +kernel
theorem d_Repeats_ofEnd_9 : decode prog_8_method_8_code 9 = .ok (.arraylength, 1) := by decide +kernel
theorem d_Repeats_ofEnd_10 : decode prog_8_method_8_code 10 = .ok (.if_icmp .ge 12, 3) := by decide +kernel
theorem d_Repeats_ofEnd_13 : decode prog_8_method_8_code 13 = .ok (.aload_n 0, 1) := by decide +kernel
theorem d_Repeats_ofEnd_14 : decode prog_8_method_8_code 14 = .ok (.getfield 17, 3) := by decide +kernel
theorem d_Repeats_ofEnd_17 : decode prog_8_method_8_code 17 = .ok (.iload_n 1, 1) := by decide +kernel
theorem d_Repeats_ofEnd_18 : decode prog_8_method_8_code 18 = .ok (.aaload, 1) := by decide +kernel
theorem d_Repeats_ofEnd_19 : decode prog_8_method_8_code 19 = .ok (.goto 4, 3) := by decide +kernel
theorem d_Repeats_ofEnd_22 : decode prog_8_method_8_code 22 = .ok (.aconst_null, 1) := by decide +kernel
theorem d_Repeats_ofEnd_23 : decode prog_8_method_8_code 23 = .ok (.areturn, 1) := by decide +kernel
theorem d_Faults_least_0 : decode prog_2_method_2_code 0 = .ok (.iconst 1, 1) := by decide +kernel
theorem d_Faults_least_1 : decode prog_2_method_2_code 1 = .ok (.istore_n 2, 1) := by decide +kernel
theorem d_Faults_least_2 : decode prog_2_method_2_code 2 = .ok (.iload_n 2, 1) := by decide +kernel
theorem d_Faults_least_3 : decode prog_2_method_2_code 3 = .ok (.bipush 7, 2) := by decide +kernel
theorem d_Faults_least_5 : decode prog_2_method_2_code 5 = .ok (.if_icmp .gt 42, 3) := by decide +kernel
theorem d_Faults_least_8 : decode prog_2_method_2_code 8 = .ok (.iconst 0, 1) := by decide +kernel
theorem d_Faults_least_9 : decode prog_2_method_2_code 9 = .ok (.istore_n 3, 1) := by decide +kernel
theorem d_Faults_least_10 : decode prog_2_method_2_code 10 = .ok (.iload_n 3, 1) := by decide +kernel
theorem d_Faults_least_11 : decode prog_2_method_2_code 11 = .ok (.aload_n 0, 1) := by decide +kernel
theorem d_Faults_least_12 : decode prog_2_method_2_code 12 = .ok (.getfield 11, 3) := by decide +kernel
theorem d_Faults_least_15 : decode prog_2_method_2_code 15 = .ok (.if_icmp .ge 26, 3) := by decide +kernel
theorem d_Faults_least_18 : decode prog_2_method_2_code 18 = .ok (.iload_n 2, 1) := by decide +kernel
theorem d_Faults_least_19 : decode prog_2_method_2_code 19 = .ok (.aload_n 0, 1) := by decide +kernel
theorem d_Faults_least_20 : decode prog_2_method_2_code 20 = .ok (.aload_n 1, 1) := by decide +kernel
theorem d_Faults_least_21 : decode prog_2_method_2_code 21 = .ok (.iload_n 3, 1) := by decide +kernel
theorem d_Faults_least_22 : decode prog_2_method_2_code 22 = .ok (.invokestatic 17, 3) := by decide +kernel
theorem d_Faults_least_25 : decode prog_2_method_2_code 25 = .ok (.ifCond .eq 10, 3) := by decide +kernel
theorem d_Faults_least_28 : decode prog_2_method_2_code 28 = .ok (.bipush 100, 2) := by decide +kernel
theorem d_Faults_least_30 : decode prog_2_method_2_code 30 = .ok (.iload_n 2, 1) := by decide +kernel
theorem d_Faults_least_31 : decode prog_2_method_2_code 31 = .ok (.imul, 1) := by decide +kernel
theorem d_Faults_least_32 : decode prog_2_method_2_code 32 = .ok (.iload_n 3, 1) := by decide +kernel
theorem d_Faults_least_33 : decode prog_2_method_2_code 33 = .ok (.iadd, 1) := by decide +kernel
theorem d_Faults_least_34 : decode prog_2_method_2_code 34 = .ok (.ireturn, 1) := by decide +kernel
theorem d_Faults_least_35 : decode prog_2_method_2_code 35 = .ok (.iinc 3 1, 3) := by decide +kernel
theorem d_Faults_least_38 : decode prog_2_method_2_code 38 = .ok (.goto (-28), 3) := by decide +kernel
theorem d_Faults_least_41 : decode prog_2_method_2_code 41 = .ok (.iinc 2 1, 3) := by decide +kernel
theorem d_Faults_least_44 : decode prog_2_method_2_code 44 = .ok (.goto (-42), 3) := by decide +kernel
theorem d_Faults_least_47 : decode prog_2_method_2_code 47 = .ok (.iconst 0, 1) := by decide +kernel
theorem d_Faults_least_48 : decode prog_2_method_2_code 48 = .ok (.ireturn, 1) := by decide +kernel
theorem d_Faults_isThere_0 : decode prog_2_method_3_code 0 = .ok (.iload_n 0, 1) := by decide +kernel
theorem d_Faults_isThere_1 : decode prog_2_method_3_code 1 = .ok (.tableswitch 175 1 6 #[39, 62, 85, 109, 116, 150], 39) := by decide +kernel
theorem d_Faults_isThere_40 : decode prog_2_method_3_code 40 = .ok (.aload_n 1, 1) := by decide +kernel
theorem d_Faults_isThere_41 : decode prog_2_method_3_code 41 = .ok (.iload_n 3, 1) := by decide +kernel
theorem d_Faults_isThere_42 : decode prog_2_method_3_code 42 = .ok (.iconst 0, 1) := by decide +kernel
theorem d_Faults_isThere_43 : decode prog_2_method_3_code 43 = .ok (.invokevirtual 21, 3) := by decide +kernel
theorem d_Faults_isThere_46 : decode prog_2_method_3_code 46 = .ok (.ifCond .eq 15, 3) := by decide +kernel
theorem d_Faults_isThere_49 : decode prog_2_method_3_code 49 = .ok (.aload_n 1, 1) := by decide +kernel
theorem d_Faults_isThere_50 : decode prog_2_method_3_code 50 = .ok (.iload_n 3, 1) := by decide +kernel
theorem d_Faults_isThere_51 : decode prog_2_method_3_code 51 = .ok (.invokestatic 25, 3) := by decide +kernel
theorem d_Faults_isThere_54 : decode prog_2_method_3_code 54 = .ok (.ifCond .eq 7, 3) := by decide +kernel
theorem d_Faults_isThere_57 : decode prog_2_method_3_code 57 = .ok (.iconst 1, 1) := by decide +kernel
theorem d_Faults_isThere_58 : decode prog_2_method_3_code 58 = .ok (.goto 4, 3) := by decide +kernel
theorem d_Faults_isThere_61 : decode prog_2_method_3_code 61 = .ok (.iconst 0, 1) := by decide +kernel
theorem d_Faults_isThere_62 : decode prog_2_method_3_code 62 = .ok (.ireturn, 1) := by decide +kernel
theorem d_Faults_isThere_63 : decode prog_2_method_3_code 63 = .ok (.aload_n 1, 1) := by decide +kernel
theorem d_Faults_isThere_64 : decode prog_2_method_3_code 64 = .ok (.iload_n 3, 1) := by decide +kernel
theorem d_Faults_isThere_65 : decode prog_2_method_3_code 65 = .ok (.iconst 2, 1) := by decide +kernel
theorem d_Faults_isThere_66 : decode prog_2_method_3_code 66 = .ok (.invokevirtual 21, 3) := by decide +kernel
theorem d_Faults_isThere_69 : decode prog_2_method_3_code 69 = .ok (.ifCond .eq 15, 3) := by decide +kernel
theorem d_Faults_isThere_72 : decode prog_2_method_3_code 72 = .ok (.aload_n 2, 1) := by decide +kernel
theorem d_Faults_isThere_73 : decode prog_2_method_3_code 73 = .ok (.iload_n 3, 1) := by decide +kernel
theorem d_Faults_isThere_74 : decode prog_2_method_3_code 74 = .ok (.invokestatic 29, 3) := by decide +kernel
theorem d_Faults_isThere_77 : decode prog_2_method_3_code 77 = .ok (.ifCond .eq 7, 3) := by decide +kernel
theorem d_Faults_isThere_80 : decode prog_2_method_3_code 80 = .ok (.iconst 1, 1) := by decide +kernel
theorem d_Faults_isThere_81 : decode prog_2_method_3_code 81 = .ok (.goto 4, 3) := by decide +kernel
theorem d_Faults_isThere_84 : decode prog_2_method_3_code 84 = .ok (.iconst 0, 1) := by decide +kernel
theorem d_Faults_isThere_85 : decode prog_2_method_3_code 85 = .ok (.ireturn, 1) := by decide +kernel
theorem d_Faults_isThere_86 : decode prog_2_method_3_code 86 = .ok (.aload_n 1, 1) := by decide +kernel
theorem d_Faults_isThere_87 : decode prog_2_method_3_code 87 = .ok (.iload_n 3, 1) := by decide +kernel
theorem d_Faults_isThere_88 : decode prog_2_method_3_code 88 = .ok (.iconst 1, 1) := by decide +kernel
theorem d_Faults_isThere_89 : decode prog_2_method_3_code 89 = .ok (.invokevirtual 21, 3) := by decide +kernel
theorem d_Faults_isThere_92 : decode prog_2_method_3_code 92 = .ok (.ifCond .eq 16, 3) := by decide +kernel
theorem d_Faults_isThere_95 : decode prog_2_method_3_code 95 = .ok (.aload_n 1, 1) := by decide +kernel
theorem d_Faults_isThere_96 : decode prog_2_method_3_code 96 = .ok (.aload_n 2, 1) := by decide +kernel
theorem d_Faults_isThere_97 : decode prog_2_method_3_code 97 = .ok (.iload_n 3, 1) := by decide +kernel
theorem d_Faults_isThere_98 : decode prog_2_method_3_code 98 = .ok (.invokestatic 33, 3) := by decide +kernel
theorem d_Faults_isThere_101 : decode prog_2_method_3_code 101 = .ok (.ifCond .eq 7, 3) := by decide +kernel
theorem d_Faults_isThere_104 : decode prog_2_method_3_code 104 = .ok (.iconst 1, 1) := by decide +kernel
theorem d_Faults_isThere_105 : decode prog_2_method_3_code 105 = .ok (.goto 4, 3) := by decide +kernel
theorem d_Faults_isThere_108 : decode prog_2_method_3_code 108 = .ok (.iconst 0, 1) := by decide +kernel
theorem d_Faults_isThere_109 : decode prog_2_method_3_code 109 = .ok (.ireturn, 1) := by decide +kernel
theorem d_Faults_isThere_110 : decode prog_2_method_3_code 110 = .ok (.aload_n 1, 1) := by decide +kernel
theorem d_Faults_isThere_111 : decode prog_2_method_3_code 111 = .ok (.aload_n 2, 1) := by decide +kernel
theorem d_Faults_isThere_112 : decode prog_2_method_3_code 112 = .ok (.iload_n 3, 1) := by decide +kernel
theorem d_Faults_isThere_113 : decode prog_2_method_3_code 113 = .ok (.invokestatic 37, 3) := by decide +kernel
theorem d_Faults_isThere_116 : decode prog_2_method_3_code 116 = .ok (.ireturn, 1) := by decide +kernel
theorem d_Faults_isThere_117 : decode prog_2_method_3_code 117 = .ok (.aload_n 1, 1) := by decide +kernel
theorem d_Faults_isThere_118 : decode prog_2_method_3_code 118 = .ok (.iconst 3, 1) := by decide +kernel
theorem d_Faults_isThere_119 : decode prog_2_method_3_code 119 = .ok (.iload_n 3, 1) := by decide +kernel
theorem d_Faults_isThere_120 : decode prog_2_method_3_code 120 = .ok (.invokestatic 40, 3) := by decide +kernel
theorem d_Faults_isThere_123 : decode prog_2_method_3_code 123 = .ok (.ifCond .ne 22, 3) := by decide +kernel
theorem d_Faults_isThere_126 : decode prog_2_method_3_code 126 = .ok (.aload_n 1, 1) := by decide +kernel
theorem d_Faults_isThere_127 : decode prog_2_method_3_code 127 = .ok (.iconst 4, 1) := by decide +kernel
theorem d_Faults_isThere_128 : decode prog_2_method_3_code 128 = .ok (.iload_n 3, 1) := by decide +kernel
theorem d_Faults_isThere_129 : decode prog_2_method_3_code 129 = .ok (.invokestatic 40, 3) := by decide +kernel
theorem d_Faults_isThere_132 : decode prog_2_method_3_code 132 = .ok (.ifCond .ne 13, 3) := by decide +kernel
theorem d_Faults_isThere_135 : decode prog_2_method_3_code 135 = .ok (.aload_n 1, 1) := by decide +kernel
theorem d_Faults_isThere_136 : decode prog_2_method_3_code 136 = .ok (.bipush 7, 2) := by decide +kernel
theorem d_Faults_isThere_138 : decode prog_2_method_3_code 138 = .ok (.iload_n 3, 1) := by decide +kernel
theorem d_Faults_isThere_139 : decode prog_2_method_3_code 139 = .ok (.invokestatic 40, 3) := by decide +kernel
theorem d_Faults_isThere_142 : decode prog_2_method_3_code 142 = .ok (.ifCond .eq 7, 3) := by decide +kernel
theorem d_Faults_isThere_145 : decode prog_2_method_3_code 145 = .ok (.iconst 1, 1) := by decide +kernel
theorem d_Faults_isThere_146 : decode prog_2_method_3_code 146 = .ok (.goto 4, 3) := by decide +kernel
theorem d_Faults_isThere_149 : decode prog_2_method_3_code 149 = .ok (.iconst 0, 1) := by decide +kernel
theorem d_Faults_isThere_150 : decode prog_2_method_3_code 150 = .ok (.ireturn, 1) := by decide +kernel
theorem d_Faults_isThere_151 : decode prog_2_method_3_code 151 = .ok (.aload_n 1, 1) := by decide +kernel
theorem d_Faults_isThere_152 : decode prog_2_method_3_code 152 = .ok (.iload_n 3, 1) := by decide +kernel
theorem d_Faults_isThere_153 : decode prog_2_method_3_code 153 = .ok (.bipush 7, 2) := by decide +kernel
theorem d_Faults_isThere_155 : decode prog_2_method_3_code 155 = .ok (.invokevirtual 21, 3) := by decide +kernel
theorem d_Faults_isThere_158 : decode prog_2_method_3_code 158 = .ok (.ifCond .eq 16, 3) := by decide +kernel
theorem d_Faults_isThere_161 : decode prog_2_method_3_code 161 = .ok (.aload_n 1, 1) := by decide +kernel
theorem d_Faults_isThere_162 : decode prog_2_method_3_code 162 = .ok (.iload_n 3, 1) := by decide +kernel
theorem d_Faults_isThere_163 : decode prog_2_method_3_code 163 = .ok (.invokestatic 44, 3) := by decide +kernel
theorem d_Faults_isThere_166 : decode prog_2_method_3_code 166 = .ok (.iconst (-1), 1) := by decide +kernel
theorem d_Faults_isThere_167 : decode prog_2_method_3_code 167 = .ok (.if_icmp .ne 7, 3) := by decide +kernel
theorem d_Faults_isThere_170 : decode prog_2_method_3_code 170 = .ok (.iconst 1, 1) := by decide +kernel
theorem d_Faults_isThere_171 : decode prog_2_method_3_code 171 = .ok (.goto 4, 3) := by decide +kernel
theorem d_Faults_isThere_174 : decode prog_2_method_3_code 174 = .ok (.iconst 0, 1) := by decide +kernel
theorem d_Faults_isThere_175 : decode prog_2_method_3_code 175 = .ok (.ireturn, 1) := by decide +kernel
theorem d_Faults_isThere_176 : decode prog_2_method_3_code 176 = .ok (.aload_n 1, 1) := by decide +kernel
theorem d_Faults_isThere_177 : decode prog_2_method_3_code 177 = .ok (.iload_n 3, 1) := by decide +kernel
theorem d_Faults_isThere_178 : decode prog_2_method_3_code 178 = .ok (.bipush 7, 2) := by decide +kernel
theorem d_Faults_isThere_180 : decode prog_2_method_3_code 180 = .ok (.invokevirtual 21, 3) := by decide +kernel
theorem d_Faults_isThere_183 : decode prog_2_method_3_code 183 = .ok (.ifCond .eq 15, 3) := by decide +kernel
theorem d_Faults_isThere_186 : decode prog_2_method_3_code 186 = .ok (.aload_n 1, 1) := by decide +kernel
theorem d_Faults_isThere_187 : decode prog_2_method_3_code 187 = .ok (.iload_n 3, 1) := by decide +kernel
theorem d_Faults_isThere_188 : decode prog_2_method_3_code 188 = .ok (.invokestatic 50, 3) := by decide +kernel
theorem d_Faults_isThere_191 : decode prog_2_method_3_code 191 = .ok (.ifCond .eq 7, 3) := by decide +kernel
theorem d_Faults_isThere_194 : decode prog_2_method_3_code 194 = .ok (.iconst 1, 1) := by decide +kernel
theorem d_Faults_isThere_195 : decode prog_2_method_3_code 195 = .ok (.goto 4, 3) := by decide +kernel
theorem d_Faults_isThere_198 : decode prog_2_method_3_code 198 = .ok (.iconst 0, 1) := by decide +kernel
theorem d_Faults_isThere_199 : decode prog_2_method_3_code 199 = .ok (.ireturn, 1) := by decide +kernel
theorem d_Faults_isNeverEnded_0 : decode prog_2_method_4_code 0 = .ok (.iload_n 1, 1) := by decide +kernel
theorem d_Faults_isNeverEnded_1 : decode prog_2_method_4_code 1 = .ok (.istore_n 2, 1) := by decide +kernel
theorem d_Faults_isNeverEnded_2 : decode prog_2_method_4_code 2 = .ok (.iload_n 2, 1) := by decide +kernel
theorem d_Faults_isNeverEnded_3 : decode prog_2_method_4_code 3 = .ok (.aload_n 0, 1) := by decide +kernel
theorem d_Faults_isNeverEnded_4 : decode prog_2_method_4_code 4 = .ok (.getfield 11, 3) := by decide +kernel
theorem d_Faults_isNeverEnded_7 : decode prog_2_method_4_code 7 = .ok (.if_icmp .ge 36, 3) := by decide +kernel
theorem d_Faults_isNeverEnded_10 : decode prog_2_method_4_code 10 = .ok (.iload_n 2, 1) := by decide +kernel
theorem d_Faults_isNeverEnded_11 : decode prog_2_method_4_code 11 = .ok (.iload_n 1, 1) := by decide +kernel
theorem d_Faults_isNeverEnded_12 : decode prog_2_method_4_code 12 = .ok (.if_icmp .le 14, 3) := by decide +kernel
theorem d_Faults_isNeverEnded_15 : decode prog_2_method_4_code 15 = .ok (.aload_n 0, 1) := by decide +kernel
theorem d_Faults_isNeverEnded_16 : decode prog_2_method_4_code 16 = .ok (.iload_n 2, 1) := by decide +kernel
theorem d_Faults_isNeverEnded_17 : decode prog_2_method_4_code 17 = .ok (.iconst 0, 1) := by decide +kernel
theorem d_Faults_isNeverEnded_18 : decode prog_2_method_4_code 18 = .ok (.invokevirtual 21, 3) := by decide +kernel
theorem d_Faults_isNeverEnded_21 : decode prog_2_method_4_code 21 = .ok (.ifCond .eq 5, 3) := by decide +kernel
theorem d_Faults_isNeverEnded_24 : decode prog_2_method_4_code 24 = .ok (.iconst 1, 1) := by decide +kernel
theorem d_Faults_isNeverEnded_25 : decode prog_2_method_4_code 25 = .ok (.ireturn, 1) := by decide +kernel
theorem d_Faults_isNeverEnded_26 : decode prog_2_method_4_code 26 = .ok (.aload_n 0, 1) := by decide +kernel
theorem d_Faults_isNeverEnded_27 : decode prog_2_method_4_code 27 = .ok (.iload_n 2, 1) := by decide +kernel
theorem d_Faults_isNeverEnded_28 : decode prog_2_method_4_code 28 = .ok (.iconst 1, 1) := by decide +kernel
theorem d_Faults_isNeverEnded_29 : decode prog_2_method_4_code 29 = .ok (.invokevirtual 21, 3) := by decide +kernel
theorem d_Faults_isNeverEnded_32 : decode prog_2_method_4_code 32 = .ok (.ifCond .eq 5, 3) := by decide +kernel
theorem d_Faults_isNeverEnded_35 : decode prog_2_method_4_code 35 = .ok (.iconst 0, 1) := by decide +kernel
theorem d_Faults_isNeverEnded_36 : decode prog_2_method_4_code 36 = .ok (.ireturn, 1) := by decide +kernel
theorem d_Faults_isNeverEnded_37 : decode prog_2_method_4_code 37 = .ok (.iinc 2 1, 3) := by decide +kernel
theorem d_Faults_isNeverEnded_40 : decode prog_2_method_4_code 40 = .ok (.goto (-38), 3) := by decide +kernel
theorem d_Faults_isNeverEnded_43 : decode prog_2_method_4_code 43 = .ok (.iconst 1, 1) := by decide +kernel
theorem d_Faults_isNeverEnded_44 : decode prog_2_method_4_code 44 = .ok (.ireturn, 1) := by decide +kernel
theorem d_Faults_isStrayEnding_0 : decode prog_2_method_5_code 0 = .ok (.aload_n 0, 1) := by decide +kernel
theorem d_Faults_isStrayEnding_1 : decode prog_2_method_5_code 1 = .ok (.iload_n 1, 1) := by decide +kernel
theorem d_Faults_isStrayEnding_2 : decode prog_2_method_5_code 2 = .ok (.invokevirtual 53, 3) := by decide +kernel
theorem d_Faults_isStrayEnding_5 : decode prog_2_method_5_code 5 = .ok (.astore_n 2, 1) := by decide +kernel
theorem d_Faults_isStrayEnding_6 : decode prog_2_method_5_code 6 = .ok (.aload_n 2, 1) := by decide +kernel
theorem d_Faults_isStrayEnding_7 : decode prog_2_method_5_code 7 = .ok (.ifnull 19, 3) := by decide +kernel
theorem d_Faults_isStrayEnding_10 : decode prog_2_method_5_code 10 = .ok (.iload_n 1, 1) := by decide +kernel
theorem d_Faults_isStrayEnding_11 : decode prog_2_method_5_code 11 = .ok (.aload_n 2, 1) := by decide +kernel
theorem d_Faults_isStrayEnding_12 : decode prog_2_method_5_code 12 = .ok (.getfield 59, 3) := by decide +kernel
theorem d_Faults_isStrayEnding_15 : decode prog_2_method_5_code 15 = .ok (.if_icmp .gt 15, 3) := by decide +kernel
theorem d_Faults_isStrayEnding_18 : decode prog_2_method_5_code 18 = .ok (.iload_n 1, 1) := by decide +kernel
theorem d_Faults_isStrayEnding_19 : decode prog_2_method_5_code 19 = .ok (.aload_n 2, 1) := by decide +kernel
theorem d_Faults_isStrayEnding_20 : decode prog_2_method_5_code 20 = .ok (.getfield 64, 3) := by decide +kernel
theorem d_Faults_isStrayEnding_23 : decode prog_2_method_5_code 23 = .ok (.if_icmp .eq 7, 3) := by decide +kernel
theorem d_Faults_isStrayEnding_26 : decode prog_2_method_5_code 26 = .ok (.iconst 1, 1) := by decide +kernel
theorem d_Faults_isStrayEnding_27 : decode prog_2_method_5_code 27 = .ok (.goto 4, 3) := by decide +kernel
theorem d_Faults_isStrayEnding_30 : decode prog_2_method_5_code 30 = .ok (.iconst 0, 1) := by decide +kernel
theorem d_Faults_isStrayEnding_31 : decode prog_2_method_5_code 31 = .ok (.ireturn, 1) := by decide +kernel
theorem d_Repeats_ofEnding_0 : decode prog_8_method_9_code 0 = .ok (.iload_n 1, 1) := by decide +kernel
theorem d_Repeats_ofEnding_1 : decode prog_8_method_9_code 1 = .ok (.ifCond .lt 21, 3) := by decide +kernel
theorem d_Repeats_ofEnding_4 : decode prog_8_method_9_code 4 = .ok (.iload_n 1, 1) := by decide +kernel
theorem d_Repeats_ofEnding_5 : decode prog_8_method_9_code 5 = .ok (.aload_n 0, 1) := by decide +kernel
theorem d_Repeats_ofEnding_6 : decode prog_8_method_9_code 6 = .ok (.getfield 20, 3) := by decide +kernel
theorem d_Repeats_ofEnding_9 : decode prog_8_method_9_code 9 = .ok (.arraylength, 1) := by decide +kernel
theorem d_Repeats_ofEnding_10 : decode prog_8_method_9_code 10 = .ok (.if_icmp .ge 12, 3) := by decide +kernel
theorem d_Repeats_ofEnding_13 : decode prog_8_method_9_code 13 = .ok (.aload_n 0, 1) := by decide +kernel
theorem d_Repeats_ofEnding_14 : decode prog_8_method_9_code 14 = .ok (.getfield 20, 3) := by decide +kernel
theorem d_Repeats_ofEnding_17 : decode prog_8_method_9_code 17 = .ok (.iload_n 1, 1) := by decide +kernel
theorem d_Repeats_ofEnding_18 : decode prog_8_method_9_code 18 = .ok (.aaload, 1) := by decide +kernel
theorem d_Repeats_ofEnding_19 : decode prog_8_method_9_code 19 = .ok (.goto 4, 3) := by decide +kernel
theorem d_Repeats_ofEnding_22 : decode prog_8_method_9_code 22 = .ok (.aconst_null, 1) := by decide +kernel
theorem d_Repeats_ofEnding_23 : decode prog_8_method_9_code 23 = .ok (.areturn, 1) := by decide +kernel
theorem d_Faults_isUnlikeItsRepeat_0 : decode prog_2_method_6_code 0 = .ok (.aload_n 1, 1) := by decide +kernel
theorem d_Faults_isUnlikeItsRepeat_1 : decode prog_2_method_6_code 1 = .ok (.iload_n 2, 1) := by decide +kernel
theorem d_Faults_isUnlikeItsRepeat_2 : decode prog_2_method_6_code 2 = .ok (.invokevirtual 67, 3) := by decide +kernel
theorem d_Faults_isUnlikeItsRepeat_5 : decode prog_2_method_6_code 5 = .ok (.astore_n 3, 1) := by decide +kernel
theorem d_Faults_isUnlikeItsRepeat_6 : decode prog_2_method_6_code 6 = .ok (.aload_n 3, 1) := by decide +kernel
theorem d_Faults_isUnlikeItsRepeat_7 : decode prog_2_method_6_code 7 = .ok (.ifnull 10, 3) := by decide +kernel
theorem d_Faults_isUnlikeItsRepeat_10 : decode prog_2_method_6_code 10 = .ok (.aload_n 3, 1) := by decide +kernel
theorem d_Faults_isUnlikeItsRepeat_11 : decode prog_2_method_6_code 11 = .ok (.invokevirtual 70, 3) := by decide +kernel
theorem d_Faults_isUnlikeItsRepeat_14 : decode prog_2_method_6_code 14 = .ok (.ifCond .ne 5, 3) := by decide +kernel
theorem d_Faults_isUnlikeItsRepeat_17 : decode prog_2_method_6_code 17 = .ok (.iconst 0, 1) := by decide +kernel
theorem d_Faults_isUnlikeItsRepeat_18 : decode prog_2_method_6_code 18 = .ok (.ireturn, 1) := by decide +kernel
theorem d_Faults_isUnlikeItsRepeat_19 : decode prog_2_method_6_code 19 = .ok (.aload_n 0, 1) := by decide +kernel
theorem d_Faults_isUnlikeItsRepeat_20 : decode prog_2_method_6_code 20 = .ok (.iload_n 2, 1) := by decide +kernel
theorem d_Faults_isUnlikeItsRepeat_21 : decode prog_2_method_6_code 21 = .ok (.iconst 1, 1) := by decide +kernel
theorem d_Faults_isUnlikeItsRepeat_22 : decode prog_2_method_6_code 22 = .ok (.invokevirtual 74, 3) := by decide +kernel
theorem d_Faults_isUnlikeItsRepeat_25 : decode prog_2_method_6_code 25 = .ok (.aload_n 3, 1) := by decide +kernel
theorem d_Faults_isUnlikeItsRepeat_26 : decode prog_2_method_6_code 26 = .ok (.getfield 78, 3) := by decide +kernel
theorem d_Faults_isUnlikeItsRepeat_29 : decode prog_2_method_6_code 29 = .ok (.if_icmp .ne 14, 3) := by decide +kernel
theorem d_Faults_isUnlikeItsRepeat_32 : decode prog_2_method_6_code 32 = .ok (.aload_n 1, 1) := by decide +kernel
theorem d_Faults_isUnlikeItsRepeat_33 : decode prog_2_method_6_code 33 = .ok (.iload_n 2, 1) := by decide +kernel
theorem d_Faults_isUnlikeItsRepeat_34 : decode prog_2_method_6_code 34 = .ok (.iconst 1, 1) := by decide +kernel
theorem d_Faults_isUnlikeItsRepeat_35 : decode prog_2_method_6_code 35 = .ok (.iadd, 1) := by decide +kernel
theorem d_Faults_isUnlikeItsRepeat_36 : decode prog_2_method_6_code 36 = .ok (.invokevirtual 53, 3) := by decide +kernel
theorem d_Faults_isUnlikeItsRepeat_39 : decode prog_2_method_6_code 39 = .ok (.aload_n 3, 1) := by decide +kernel
theorem d_Faults_isUnlikeItsRepeat_40 : decode prog_2_method_6_code 40 = .ok (.if_acmp .eq 7, 3) := by decide +kernel
theorem d_Faults_isUnlikeItsRepeat_43 : decode prog_2_method_6_code 43 = .ok (.iconst 1, 1) := by decide +kernel
theorem d_Faults_isUnlikeItsRepeat_44 : decode prog_2_method_6_code 44 = .ok (.goto 4, 3) := by decide +kernel
theorem d_Faults_isUnlikeItsRepeat_47 : decode prog_2_method_6_code 47 = .ok (.iconst 0, 1) := by decide +kernel
theorem d_Faults_isUnlikeItsRepeat_48 : decode prog_2_method_6_code 48 = .ok (.ireturn, 1) := by decide +kernel
theorem d_Faults_isFirstOfWrongPasses_0 : decode prog_2_method_7_code 0 = .ok (.aload_n 1, 1) := by decide +kernel
theorem d_Faults_isFirstOfWrongPasses_1 : decode prog_2_method_7_code 1 = .ok (.iload_n 2, 1) := by decide +kernel
theorem d_Faults_isFirstOfWrongPasses_2 : decode prog_2_method_7_code 2 = .ok (.invokevirtual 81, 3) := by decide +kernel
theorem d_Faults_isFirstOfWrongPasses_5 : decode prog_2_method_7_code 5 = .ok (.astore_n 3, 1) := by decide +kernel
theorem d_Faults_isFirstOfWrongPasses_6 : decode prog_2_method_7_code 6 = .ok (.aload_n 3, 1) := by decide +kernel
theorem d_Faults_isFirstOfWrongPasses_7 : decode prog_2_method_7_code 7 = .ok (.ifnull 18, 3) := by decide +kernel
theorem d_Faults_isFirstOfWrongPasses_10 : decode prog_2_method_7_code 10 = .ok (.aload_n 3, 1) := by decide +kernel
theorem d_Faults_isFirstOfWrongPasses_11 : decode prog_2_method_7_code 11 = .ok (.getfield 84, 3) := by decide +kernel
theorem d_Faults_isFirstOfWrongPasses_14 : decode prog_2_method_7_code 14 = .ok (.iload_n 2, 1) := by decide +kernel
theorem d_Faults_isFirstOfWrongPasses_15 : decode prog_2_method_7_code 15 = .ok (.if_icmp .ne 10, 3) := by decide +kernel
theorem d_Faults_isFirstOfWrongPasses_18 : decode prog_2_method_7_code 18 = .ok (.aload_n 3, 1) := by decide +kernel
theorem d_Faults_isFirstOfWrongPasses_19 : decode prog_2_method_7_code 19 = .ok (.invokevirtual 70, 3) := by decide +kernel
theorem d_Faults_isFirstOfWrongPasses_22 : decode prog_2_method_7_code 22 = .ok (.ifCond .ne 5, 3) := by decide +kernel
theorem d_Faults_isFirstOfWrongPasses_25 : decode prog_2_method_7_code 25 = .ok (.iconst 0, 1) := by decide +kernel
theorem d_Faults_isFirstOfWrongPasses_26 : decode prog_2_method_7_code 26 = .ok (.ireturn, 1) := by decide +kernel
theorem d_Faults_isFirstOfWrongPasses_27 : decode prog_2_method_7_code 27 = .ok (.iconst 0, 1) := by decide +kernel
theorem d_Faults_isFirstOfWrongPasses_28 : decode prog_2_method_7_code 28 = .ok (.istore 4, 2) := by decide +kernel
theorem d_Faults_isFirstOfWrongPasses_30 : decode prog_2_method_7_code 30 = .ok (.iload_n 2, 1) := by decide +kernel
theorem d_Faults_isFirstOfWrongPasses_31 : decode prog_2_method_7_code 31 = .ok (.istore 5, 2) := by decide +kernel
theorem d_Faults_isFirstOfWrongPasses_33 : decode prog_2_method_7_code 33 = .ok (.iload 5, 2) := by decide +kernel
theorem d_Faults_isFirstOfWrongPasses_35 : decode prog_2_method_7_code 35 = .ok (.aload_n 3, 1) := by decide +kernel
theorem d_Faults_isFirstOfWrongPasses_36 : decode prog_2_method_7_code 36 = .ok (.getfield 87, 3) := by decide +kernel
theorem d_Faults_isFirstOfWrongPasses_39 : decode prog_2_method_7_code 39 = .ok (.if_icmp .gt 45, 3) := by decide +kernel
theorem d_Faults_isFirstOfWrongPasses_42 : decode prog_2_method_7_code 42 = .ok (.aload_n 1, 1) := by decide +kernel
theorem d_Faults_isFirstOfWrongPasses_43 : decode prog_2_method_7_code 43 = .ok (.iload 5, 2) := by decide +kernel
theorem d_Faults_isFirstOfWrongPasses_45 : decode prog_2_method_7_code 45 = .ok (.invokevirtual 53, 3) := by decide +kernel
theorem d_Faults_isFirstOfWrongPasses_48 : decode prog_2_method_7_code 48 = .ok (.aload_n 3, 1) := by decide +kernel
theorem d_Faults_isFirstOfWrongPasses_49 : decode prog_2_method_7_code 49 = .ok (.if_acmp .ne 29, 3) := by decide +kernel
theorem d_Faults_isFirstOfWrongPasses_52 : decode prog_2_method_7_code 52 = .ok (.aload_n 0, 1) := by decide +kernel
theorem d_Faults_isFirstOfWrongPasses_53 : decode prog_2_method_7_code 53 = .ok (.iload 5, 2) := by decide +kernel
theorem d_Faults_isFirstOfWrongPasses_55 : decode prog_2_method_7_code 55 = .ok (.iconst 2, 1) := by decide +kernel
theorem d_Faults_isFirstOfWrongPasses_56 : decode prog_2_method_7_code 56 = .ok (.invokevirtual 74, 3) := by decide +kernel
theorem d_Faults_isFirstOfWrongPasses_59 : decode prog_2_method_7_code 59 = .ok (.istore 6, 2) := by decide +kernel
theorem d_Faults_isFirstOfWrongPasses_61 : decode prog_2_method_7_code 61 = .ok (.iload 4, 2) := by decide +kernel
theorem d_Faults_isFirstOfWrongPasses_63 : decode prog_2_method_7_code 63 = .ok (.iload 6, 2) := by decide +kernel
theorem d_Faults_isFirstOfWrongPasses_65 : decode prog_2_method_7_code 65 = .ok (.iand, 1) := by decide +kernel
theorem d_Faults_isFirstOfWrongPasses_66 : decode prog_2_method_7_code 66 = .ok (.ifCond .eq 5, 3) := by decide +kernel
theorem d_Faults_isFirstOfWrongPasses_69 : decode prog_2_method_7_code 69 = .ok (.iconst 1, 1) := by decide +kernel
theorem d_Faults_isFirstOfWrongPasses_70 : decode prog_2_method_7_code 70 = .ok (.ireturn, 1) := by decide +kernel
theorem d_Faults_isFirstOfWrongPasses_71 : decode prog_2_method_7_code 71 = .ok (.iload 4, 2) := by decide +kernel
theorem d_Faults_isFirstOfWrongPasses_73 : decode prog_2_method_7_code 73 = .ok (.iload 6, 2) := by decide +kernel
theorem d_Faults_isFirstOfWrongPasses_75 : decode prog_2_method_7_code 75 = .ok (.ior, 1) := by decide +kernel
theorem d_Faults_isFirstOfWrongPasses_76 : decode prog_2_method_7_code 76 = .ok (.istore 4, 2) := by decide +kernel
theorem d_Faults_isFirstOfWrongPasses_78 : decode prog_2_method_7_code 78 = .ok (.iinc 5 1, 3) := by decide +kernel
theorem d_Faults_isFirstOfWrongPasses_81 : decode prog_2_method_7_code 81 = .ok (.goto (-48), 3) := by decide +kernel
theorem d_Faults_isFirstOfWrongPasses_84 : decode prog_2_method_7_code 84 = .ok (.iconst 1, 1) := by decide +kernel
theorem d_Faults_isFirstOfWrongPasses_85 : decode prog_2_method_7_code 85 = .ok (.aload_n 3, 1) := by decide +kernel
theorem d_Faults_isFirstOfWrongPasses_86 : decode prog_2_method_7_code 86 = .ok (.getfield 78, 3) := by decide +kernel
theorem d_Faults_isFirstOfWrongPasses_89 : decode prog_2_method_7_code 89 = .ok (.ishl, 1) := by decide +kernel
theorem d_Faults_isFirstOfWrongPasses_90 : decode prog_2_method_7_code 90 = .ok (.iconst 1, 1) := by decide +kernel
theorem d_Faults_isFirstOfWrongPasses_91 : decode prog_2_method_7_code 91 = .ok (.isub, 1) := by decide +kernel
theorem d_Faults_isFirstOfWrongPasses_92 : decode prog_2_method_7_code 92 = .ok (.istore 5, 2) := by decide +kernel
theorem d_Faults_isFirstOfWrongPasses_94 : decode prog_2_method_7_code 94 = .ok (.iload 4, 2) := by decide +kernel
theorem d_Faults_isFirstOfWrongPasses_96 : decode prog_2_method_7_code 96 = .ok (.iload 5, 2) := by decide +kernel
theorem d_Faults_isFirstOfWrongPasses_98 : decode prog_2_method_7_code 98 = .ok (.if_icmp .ne 18, 3) := by decide +kernel
theorem d_Faults_isFirstOfWrongPasses_101 : decode prog_2_method_7_code 101 = .ok (.aload_n 0, 1) := by decide +kernel
theorem d_Faults_isFirstOfWrongPasses_102 : decode prog_2_method_7_code 102 = .ok (.aload_n 3, 1) := by decide +kernel
theorem d_Faults_isFirstOfWrongPasses_103 : decode prog_2_method_7_code 103 = .ok (.getfield 87, 3) := by decide +kernel
theorem d_Faults_isFirstOfWrongPasses_106 : decode prog_2_method_7_code 106 = .ok (.aload_n 3, 1) := by decide +kernel
theorem d_Faults_isFirstOfWrongPasses_107 : decode prog_2_method_7_code 107 = .ok (.getfield 78, 3) := by decide +kernel
theorem d_Faults_isFirstOfWrongPasses_110 : decode prog_2_method_7_code 110 = .ok (.invokevirtual 90, 3) := by decide +kernel
theorem d_Faults_isFirstOfWrongPasses_113 : decode prog_2_method_7_code 113 = .ok (.ifCond .ne 7, 3) := by decide +kernel
theorem d_Faults_isFirstOfWrongPasses_116 : decode prog_2_method_7_code 116 = .ok (.iconst 1, 1) := by decide +kernel
theorem d_Faults_isFirstOfWrongPasses_117 : decode prog_2_method_7_code 117 = .ok (.goto 4, 3) := by decide +kernel
theorem d_Faults_isFirstOfWrongPasses_120 : decode prog_2_method_7_code 120 = .ok (.iconst 0, 1) := by decide +kernel
theorem d_Faults_isFirstOfWrongPasses_121 : decode prog_2_method_7_code 121 = .ok (.ireturn, 1) := by decide +kernel
theorem d_Repeats_around_0 : decode prog_8_method_10_code 0 = .ok (.iconst 0, 1) := by decide +kernel
theorem d_Repeats_around_1 : decode prog_8_method_10_code 1 = .ok (.istore_n 2, 1) := by decide +kernel
theorem d_Repeats_around_2 : decode prog_8_method_10_code 2 = .ok (.iload_n 2, 1) := by decide +kernel
theorem d_Repeats_around_3 : decode prog_8_method_10_code 3 = .ok (.aload_n 0, 1) := by decide +kernel
theorem d_Repeats_around_4 : decode prog_8_method_10_code 4 = .ok (.getfield 24, 3) := by decide +kernel
theorem d_Repeats_around_7 : decode prog_8_method_10_code 7 = .ok (.if_icmp .ge 29, 3) := by decide +kernel
theorem d_Repeats_around_10 : decode prog_8_method_10_code 10 = .ok (.aload_n 0, 1) := by decide +kernel
theorem d_Repeats_around_11 : decode prog_8_method_10_code 11 = .ok (.getfield 11, 3) := by decide +kernel
theorem d_Repeats_around_14 : decode prog_8_method_10_code 14 = .ok (.iload_n 2, 1) := by decide +kernel
theorem d_Repeats_around_15 : decode prog_8_method_10_code 15 = .ok (.aaload, 1) := by decide +kernel
theorem d_Repeats_around_16 : decode prog_8_method_10_code 16 = .ok (.iload_n 1, 1) := by decide +kernel
theorem d_Repeats_around_17 : decode prog_8_method_10_code 17 = .ok (.invokevirtual 88, 3) := by decide +kernel
theorem d_Repeats_around_20 : decode prog_8_method_10_code 20 = .ok (.ifCond .eq 10, 3) := by decide +kernel
theorem d_Repeats_around_23 : decode prog_8_method_10_code 23 = .ok (.aload_n 0, 1) := by decide +kernel
theorem d_Repeats_around_24 : decode prog_8_method_10_code 24 = .ok (.getfield 11, 3) := by decide +kernel
theorem d_Repeats_around_27 : decode prog_8_method_10_code 27 = .ok (.iload_n 2, 1) := by decide +kernel
theorem d_Repeats_around_28 : decode prog_8_method_10_code 28 = .ok (.aaload, 1) := by decide +kernel
theorem d_Repeats_around_29 : decode prog_8_method_10_code 29 = .ok (.areturn, 1) := by decide +kernel
theorem d_Repeats_around_30 : decode prog_8_method_10_code 30 = .ok (.iinc 2 1, 3) := by decide +kernel
theorem d_Repeats_around_33 : decode prog_8_method_10_code 33 = .ok (.goto (-31), 3) := by decide +kernel
theorem d_Repeats_around_36 : decode prog_8_method_10_code 36 = .ok (.aconst_null, 1) := by decide +kernel
theorem d_Repeats_around_37 : decode prog_8_method_10_code 37 = .ok (.areturn, 1) := by decide +kernel
theorem d_Faults_isSecond_0 : decode prog_2_method_8_code 0 = .ok (.aload_n 0, 1) := by decide +kernel
theorem d_Faults_isSecond_1 : decode prog_2_method_8_code 1 = .ok (.iload_n 2, 1) := by decide +kernel
theorem d_Faults_isSecond_2 : decode prog_2_method_8_code 2 = .ok (.iload_n 1, 1) := by decide +kernel
theorem d_Faults_isSecond_3 : decode prog_2_method_8_code 3 = .ok (.invokevirtual 21, 3) := by decide +kernel
theorem d_Faults_isSecond_6 : decode prog_2_method_8_code 6 = .ok (.ifCond .eq 20, 3) := by decide +kernel
theorem d_Faults_isSecond_9 : decode prog_2_method_8_code 9 = .ok (.aload_n 0, 1) := by decide +kernel
theorem d_Faults_isSecond_10 : decode prog_2_method_8_code 10 = .ok (.iload_n 1, 1) := by decide +kernel
theorem d_Faults_isSecond_11 : decode prog_2_method_8_code 11 = .ok (.iconst 0, 1) := by decide +kernel
theorem d_Faults_isSecond_12 : decode prog_2_method_8_code 12 = .ok (.iload_n 2, 1) := by decide +kernel
theorem d_Faults_isSecond_13 : decode prog_2_method_8_code 13 = .ok (.iconst 1, 1) := by decide +kernel
theorem d_Faults_isSecond_14 : decode prog_2_method_8_code 14 = .ok (.isub, 1) := by decide +kernel
theorem d_Faults_isSecond_15 : decode prog_2_method_8_code 15 = .ok (.invokevirtual 93, 3) := by decide +kernel
theorem d_Faults_isSecond_18 : decode prog_2_method_8_code 18 = .ok (.iconst (-1), 1) := by decide +kernel
theorem d_Faults_isSecond_19 : decode prog_2_method_8_code 19 = .ok (.if_icmp .eq 7, 3) := by decide +kernel
theorem d_Faults_isSecond_22 : decode prog_2_method_8_code 22 = .ok (.iconst 1, 1) := by decide +kernel
theorem d_Faults_isSecond_23 : decode prog_2_method_8_code 23 = .ok (.goto 4, 3) := by decide +kernel
theorem d_Faults_isSecond_26 : decode prog_2_method_8_code 26 = .ok (.iconst 0, 1) := by decide +kernel
theorem d_Faults_isSecond_27 : decode prog_2_method_8_code 27 = .ok (.ireturn, 1) := by decide +kernel
theorem d_Faults_lacksItsWay_0 : decode prog_2_method_9_code 0 = .ok (.aload_n 0, 1) := by decide +kernel
theorem d_Faults_lacksItsWay_1 : decode prog_2_method_9_code 1 = .ok (.iload_n 1, 1) := by decide +kernel
theorem d_Faults_lacksItsWay_2 : decode prog_2_method_9_code 2 = .ok (.invokestatic 44, 3) := by decide +kernel
theorem d_Faults_lacksItsWay_5 : decode prog_2_method_9_code 5 = .ok (.istore_n 2, 1) := by decide +kernel
theorem d_Faults_lacksItsWay_6 : decode prog_2_method_9_code 6 = .ok (.aload_n 0, 1) := by decide +kernel
theorem d_Faults_lacksItsWay_7 : decode prog_2_method_9_code 7 = .ok (.iload_n 1, 1) := by decide +kernel
theorem d_Faults_lacksItsWay_8 : decode prog_2_method_9_code 8 = .ok (.bipush 7, 2) := by decide +kernel
theorem d_Faults_lacksItsWay_10 : decode prog_2_method_9_code 10 = .ok (.invokevirtual 74, 3) := by decide +kernel
theorem d_Faults_lacksItsWay_13 : decode prog_2_method_9_code 13 = .ok (.invokestatic 97, 3) := by decide +kernel
theorem d_Faults_lacksItsWay_16 : decode prog_2_method_9_code 16 = .ok (.istore_n 3, 1) := by decide +kernel
theorem d_Faults_lacksItsWay_17 : decode prog_2_method_9_code 17 = .ok (.iload_n 3, 1) := by decide +kernel
theorem d_Faults_lacksItsWay_18 : decode prog_2_method_9_code 18 = .ok (.iconst 1, 1) := by decide +kernel
theorem d_Faults_lacksItsWay_19 : decode prog_2_method_9_code 19 = .ok (.if_icmp .ne 20, 3) := by decide +kernel
theorem d_Faults_lacksItsWay_22 : decode prog_2_method_9_code 22 = .ok (.aload_n 0, 1) := by decide +kernel
theorem d_Faults_lacksItsWay_23 : decode prog_2_method_9_code 23 = .ok (.iconst 5, 1) := by decide +kernel
theorem d_Faults_lacksItsWay_24 : decode prog_2_method_9_code 24 = .ok (.iload_n 2, 1) := by decide +kernel
theorem d_Faults_lacksItsWay_25 : decode prog_2_method_9_code 25 = .ok (.iload_n 1, 1) := by decide +kernel
theorem d_Faults_lacksItsWay_26 : decode prog_2_method_9_code 26 = .ok (.invokevirtual 93, 3) := by decide +kernel
theorem d_Faults_lacksItsWay_29 : decode prog_2_method_9_code 29 = .ok (.iconst (-1), 1) := by decide +kernel
theorem d_Faults_lacksItsWay_30 : decode prog_2_method_9_code 30 = .ok (.if_icmp .ne 7, 3) := by decide +kernel
theorem d_Faults_lacksItsWay_33 : decode prog_2_method_9_code 33 = .ok (.iconst 1, 1) := by decide +kernel
theorem d_Faults_lacksItsWay_34 : decode prog_2_method_9_code 34 = .ok (.goto 4, 3) := by decide +kernel
theorem d_Faults_lacksItsWay_37 : decode prog_2_method_9_code 37 = .ok (.iconst 0, 1) := by decide +kernel
theorem d_Faults_lacksItsWay_38 : decode prog_2_method_9_code 38 = .ok (.ireturn, 1) := by decide +kernel
theorem d_Faults_lacksItsWay_39 : decode prog_2_method_9_code 39 = .ok (.iload_n 3, 1) := by decide +kernel
theorem d_Faults_lacksItsWay_40 : decode prog_2_method_9_code 40 = .ok (.iconst 2, 1) := by decide +kernel
theorem d_Faults_lacksItsWay_41 : decode prog_2_method_9_code 41 = .ok (.if_icmp .ne 39, 3) := by decide +kernel
theorem d_Faults_lacksItsWay_44 : decode prog_2_method_9_code 44 = .ok (.aload_n 0, 1) := by decide +kernel
theorem d_Faults_lacksItsWay_45 : decode prog_2_method_9_code 45 = .ok (.bipush 6, 2) := by decide +kernel
theorem d_Faults_lacksItsWay_47 : decode prog_2_method_9_code 47 = .ok (.iload_n 2, 1) := by decide +kernel
theorem d_Faults_lacksItsWay_48 : decode prog_2_method_9_code 48 = .ok (.iload_n 1, 1) := by decide +kernel
theorem d_Faults_lacksItsWay_49 : decode prog_2_method_9_code 49 = .ok (.invokevirtual 93, 3) := by decide +kernel
theorem d_Faults_lacksItsWay_52 : decode prog_2_method_9_code 52 = .ok (.iconst (-1), 1) := by decide +kernel
theorem d_Faults_lacksItsWay_53 : decode prog_2_method_9_code 53 = .ok (.if_icmp .eq 21, 3) := by decide +kernel
theorem d_Faults_lacksItsWay_56 : decode prog_2_method_9_code 56 = .ok (.aload_n 0, 1) := by decide +kernel
theorem d_Faults_lacksItsWay_57 : decode prog_2_method_9_code 57 = .ok (.iconst 4, 1) := by decide +kernel
theorem d_Faults_lacksItsWay_58 : decode prog_2_method_9_code 58 = .ok (.iload_n 1, 1) := by decide +kernel
theorem d_Faults_lacksItsWay_59 : decode prog_2_method_9_code 59 = .ok (.iconst 1, 1) := by decide +kernel
theorem d_Faults_lacksItsWay_60 : decode prog_2_method_9_code 60 = .ok (.iadd, 1) := by decide +kernel
theorem d_Faults_lacksItsWay_61 : decode prog_2_method_9_code 61 = .ok (.aload_n 0, 1) := by decide +kernel
theorem d_Faults_lacksItsWay_62 : decode prog_2_method_9_code 62 = .ok (.getfield 11, 3) := by decide +kernel
theorem d_Faults_lacksItsWay_65 : decode prog_2_method_9_code 65 = .ok (.iconst 1, 1) := by decide +kernel
theorem d_Faults_lacksItsWay_66 : decode prog_2_method_9_code 66 = .ok (.isub, 1) := by decide +kernel
theorem d_Faults_lacksItsWay_67 : decode prog_2_method_9_code 67 = .ok (.invokevirtual 93, 3) := by decide +kernel
theorem d_Faults_lacksItsWay_70 : decode prog_2_method_9_code 70 = .ok (.iconst (-1), 1) := by decide +kernel
theorem d_Faults_lacksItsWay_71 : decode prog_2_method_9_code 71 = .ok (.if_icmp .ne 7, 3) := by decide +kernel
theorem d_Faults_lacksItsWay_74 : decode prog_2_method_9_code 74 = .ok (.iconst 1, 1) := by decide +kernel
theorem d_Faults_lacksItsWay_75 : decode prog_2_method_9_code 75 = .ok (.goto 4, 3) := by decide +kernel
theorem d_Faults_lacksItsWay_78 : decode prog_2_method_9_code 78 = .ok (.iconst 0, 1) := by decide +kernel
theorem d_Faults_lacksItsWay_79 : decode prog_2_method_9_code 79 = .ok (.ireturn, 1) := by decide +kernel
theorem d_Faults_lacksItsWay_80 : decode prog_2_method_9_code 80 = .ok (.iconst 0, 1) := by decide +kernel
theorem d_Faults_lacksItsWay_81 : decode prog_2_method_9_code 81 = .ok (.ireturn, 1) := by decide +kernel
theorem d_Road_walk_0 : decode prog_9_method_2_code 0 = .ok (.aload_n 0, 1) := by decide +kernel
theorem d_Road_walk_1 : decode prog_9_method_2_code 1 = .ok (.iconst 0, 1) := by decide +kernel
theorem d_Road_walk_2 : decode prog_9_method_2_code 2 = .ok (.putfield 15, 3) := by decide +kernel
theorem d_Road_walk_5 : decode prog_9_method_2_code 5 = .ok (.aload_n 0, 1) := by decide +kernel
theorem d_Road_walk_6 : decode prog_9_method_2_code 6 = .ok (.iconst 0, 1) := by decide +kernel
theorem d_Road_walk_7 : decode prog_9_method_2_code 7 = .ok (.putfield 19, 3) := by decide +kernel
theorem d_Road_walk_10 : decode prog_9_method_2_code 10 = .ok (.aload_n 0, 1) := by decide +kernel
theorem d_Road_walk_11 : decode prog_9_method_2_code 11 = .ok (.iconst 0, 1) := by decide +kernel
theorem d_Road_walk_12 : decode prog_9_method_2_code 12 = .ok (.putfield 23, 3) := by decide +kernel
theorem d_Road_walk_15 : decode prog_9_method_2_code 15 = .ok (.aload_n 0, 1) := by decide +kernel
theorem d_Road_walk_16 : decode prog_9_method_2_code 16 = .ok (.iconst 0, 1) := by decide +kernel
theorem d_Road_walk_17 : decode prog_9_method_2_code 17 = .ok (.putfield 26, 3) := by decide +kernel
theorem d_Road_walk_20 : decode prog_9_method_2_code 20 = .ok (.aload_n 0, 1) := by decide +kernel
theorem d_Road_walk_21 : decode prog_9_method_2_code 21 = .ok (.iconst 1, 1) := by decide +kernel
theorem d_Road_walk_22 : decode prog_9_method_2_code 22 = .ok (.putfield 29, 3) := by decide +kernel
theorem d_Road_walk_25 : decode prog_9_method_2_code 25 = .ok (.aload_n 2, 1) := by decide +kernel
theorem d_Road_walk_26 : decode prog_9_method_2_code 26 = .ok (.invokevirtual 32, 3) := by decide +kernel
theorem d_Road_walk_29 : decode prog_9_method_2_code 29 = .ok (.iconst 0, 1) := by decide +kernel
theorem d_Road_walk_30 : decode prog_9_method_2_code 30 = .ok (.istore_n 3, 1) := by decide +kernel
theorem d_Road_walk_31 : decode prog_9_method_2_code 31 = .ok (.iload_n 3, 1) := by decide +kernel
theorem d_Road_walk_32 : decode prog_9_method_2_code 32 = .ok (.iconst (-1), 1) := by decide +kernel
theorem d_Road_walk_33 : decode prog_9_method_2_code 33 = .ok (.if_icmp .eq 75, 3) := by decide +kernel
theorem d_Road_walk_36 : decode prog_9_method_2_code 36 = .ok (.aload_n 0, 1) := by decide +kernel
theorem d_Road_walk_37 : decode prog_9_method_2_code 37 = .ok (.getfield 15, 3) := by decide +kernel
theorem d_Road_walk_40 : decode prog_9_method_2_code 40 = .ok (.aload_n 0, 1) := by decide +kernel
theorem d_Road_walk_41 : decode prog_9_method_2_code 41 = .ok (.getfield 9, 3) := by decide +kernel
theorem d_Road_walk_44 : decode prog_9_method_2_code 44 = .ok (.arraylength, 1) := by decide +kernel
theorem d_Road_walk_45 : decode prog_9_method_2_code 45 = .ok (.if_icmp .ge 63, 3) := by decide +kernel
theorem d_Road_walk_48 : decode prog_9_method_2_code 48 = .ok (.aload_n 0, 1) := by decide +kernel
theorem d_Road_walk_49 : decode prog_9_method_2_code 49 = .ok (.iload_n 3, 1) := by decide +kernel
theorem d_Road_walk_50 : decode prog_9_method_2_code 50 = .ok (.aload_n 1, 1) := by decide +kernel
theorem d_Road_walk_51 : decode prog_9_method_2_code 51 = .ok (.aload_n 2, 1) := by decide +kernel
theorem d_Road_walk_52 : decode prog_9_method_2_code 52 = .ok (.invokevirtual 37, 3) := by decide +kernel
theorem d_Road_walk_55 : decode prog_9_method_2_code 55 = .ok (.istore 4, 2) := by decide +kernel
theorem d_Road_walk_57 : decode prog_9_method_2_code 57 = .ok (.aload_n 0, 1) := by decide +kernel
theorem d_Road_walk_58 : decode prog_9_method_2_code 58 = .ok (.iload 4, 2) := by decide +kernel
theorem d_Road_walk_60 : decode prog_9_method_2_code 60 = .ok (.aload_n 2, 1) := by decide +kernel
theorem d_Road_walk_61 : decode prog_9_method_2_code 61 = .ok (.invokevirtual 41, 3) := by decide +kernel
theorem d_Road_walk_64 : decode prog_9_method_2_code 64 = .ok (.istore 5, 2) := by decide +kernel
theorem d_Road_walk_66 : decode prog_9_method_2_code 66 = .ok (.iload 4, 2) := by decide +kernel
theorem d_Road_walk_68 : decode prog_9_method_2_code 68 = .ok (.aload_n 1, 1) := by decide +kernel
theorem d_Road_walk_69 : decode prog_9_method_2_code 69 = .ok (.aload_n 2, 1) := by decide +kernel
theorem d_Road_walk_70 : decode prog_9_method_2_code 70 = .ok (.invokestatic 45, 3) := by decide +kernel
theorem d_Road_walk_73 : decode prog_9_method_2_code 73 = .ok (.aload_n 0, 1) := by decide +kernel
theorem d_Road_walk_74 : decode prog_9_method_2_code 74 = .ok (.getfield 9, 3) := by decide +kernel
theorem d_Road_walk_77 : decode prog_9_method_2_code 77 = .ok (.aload_n 0, 1) := by decide +kernel
theorem d_Road_walk_78 : decode prog_9_method_2_code 78 = .ok (.getfield 15, 3) := by decide +kernel
theorem d_Road_walk_81 : decode prog_9_method_2_code 81 = .ok (.iload 4, 2) := by decide +kernel
theorem d_Road_walk_83 : decode prog_9_method_2_code 83 = .ok (.iastore, 1) := by decide +kernel
theorem d_Road_walk_84 : decode prog_9_method_2_code 84 = .ok (.aload_n 0, 1) := by decide +kernel
theorem d_Road_walk_85 : decode prog_9_method_2_code 85 = .ok (.dup, 1) := by decide +kernel
theorem d_Road_walk_86 : decode prog_9_method_2_code 86 = .ok (.getfield 15, 3) := by decide +kernel
theorem d_Road_walk_89 : decode prog_9_method_2_code 89 = .ok (.iconst 1, 1) := by decide +kernel
theorem d_Road_walk_90 : decode prog_9_method_2_code 90 = .ok (.iadd, 1) := by decide +kernel
theorem d_Road_walk_91 : decode prog_9_method_2_code 91 = .ok (.putfield 15, 3) := by decide +kernel
theorem d_Road_walk_94 : decode prog_9_method_2_code 94 = .ok (.aload_n 0, 1) := by decide +kernel
theorem d_Road_walk_95 : decode prog_9_method_2_code 95 = .ok (.iload 4, 2) := by decide +kernel
theorem d_Road_walk_97 : decode prog_9_method_2_code 97 = .ok (.iload 5, 2) := by decide +kernel
theorem d_Road_walk_99 : decode prog_9_method_2_code 99 = .ok (.aload_n 1, 1) := by decide +kernel
theorem d_Road_walk_100 : decode prog_9_method_2_code 100 = .ok (.aload_n 2, 1) := by decide +kernel
theorem d_Road_walk_101 : decode prog_9_method_2_code 101 = .ok (.invokevirtual 49, 3) := by decide +kernel
theorem d_Road_walk_104 : decode prog_9_method_2_code 104 = .ok (.istore_n 3, 1) := by decide +kernel
theorem d_Road_walk_105 : decode prog_9_method_2_code 105 = .ok (.goto (-74), 3) := by decide +kernel
theorem d_Road_walk_108 : decode prog_9_method_2_code 108 = .ok (.return_, 1) := by decide +kernel
theorem d_Repeats_resetPasses_0 : decode prog_8_method_11_code 0 = .ok (.iconst 0, 1) := by decide +kernel
theorem d_Repeats_resetPasses_1 : decode prog_8_method_11_code 1 = .ok (.istore_n 1, 1) := by decide +kernel
theorem d_Repeats_resetPasses_2 : decode prog_8_method_11_code 2 = .ok (.iload_n 1, 1) := by decide +kernel
theorem d_Repeats_resetPasses_3 : decode prog_8_method_11_code 3 = .ok (.aload_n 0, 1) := by decide +kernel
theorem d_Repeats_resetPasses_4 : decode prog_8_method_11_code 4 = .ok (.getfield 24, 3) := by decide +kernel
theorem d_Repeats_resetPasses_7 : decode prog_8_method_11_code 7 = .ok (.if_icmp .ge 19, 3) := by decide +kernel
theorem d_Repeats_resetPasses_10 : decode prog_8_method_11_code 10 = .ok (.aload_n 0, 1) := by decide +kernel
theorem d_Repeats_resetPasses_11 : decode prog_8_method_11_code 11 = .ok (.getfield 11, 3) := by decide +kernel
theorem d_Repeats_resetPasses_14 : decode prog_8_method_11_code 14 = .ok (.iload_n 1, 1) := by decide +kernel
theorem d_Repeats_resetPasses_15 : decode prog_8_method_11_code 15 = .ok (.aaload, 1) := by decide +kernel
theorem d_Repeats_resetPasses_16 : decode prog_8_method_11_code 16 = .ok (.iconst 1, 1) := by decide +kernel
theorem d_Repeats_resetPasses_17 : decode prog_8_method_11_code 17 = .ok (.putfield 92, 3) := by decide +kernel
theorem d_Repeats_resetPasses_20 : decode prog_8_method_11_code 20 = .ok (.iinc 1 1, 3) := by decide +kernel
theorem d_Repeats_resetPasses_23 : decode prog_8_method_11_code 23 = .ok (.goto (-21), 3) := by decide +kernel
theorem d_Repeats_resetPasses_26 : decode prog_8_method_11_code 26 = .ok (.return_, 1) := by decide +kernel
theorem d_Road_insteadOf_0 : decode prog_9_method_3_code 0 = .ok (.aload_n 3, 1) := by decide +kernel
theorem d_Road_insteadOf_1 : decode prog_9_method_3_code 1 = .ok (.iload_n 1, 1) := by decide +kernel
theorem d_Road_insteadOf_2 : decode prog_9_method_3_code 2 = .ok (.invokevirtual 53, 3) := by decide +kernel
theorem d_Road_insteadOf_5 : decode prog_9_method_3_code 5 = .ok (.astore 4, 2) := by decide +kernel
theorem d_Road_insteadOf_7 : decode prog_9_method_3_code 7 = .ok (.aload 4, 2) := by decide +kernel
theorem d_Road_insteadOf_9 : decode prog_9_method_3_code 9 = .ok (.ifnonnull 5, 3) := by decide +kernel
theorem d_Road_insteadOf_12 : decode prog_9_method_3_code 12 = .ok (.iload_n 1, 1) := by decide +kernel
theorem d_Road_insteadOf_13 : decode prog_9_method_3_code 13 = .ok (.ireturn, 1) := by decide +kernel
theorem d_Road_insteadOf_14 : decode prog_9_method_3_code 14 = .ok (.aload_n 0, 1) := by decide +kernel
theorem d_Road_insteadOf_15 : decode prog_9_method_3_code 15 = .ok (.getfield 29, 3) := by decide +kernel
theorem d_Road_insteadOf_18 : decode prog_9_method_3_code 18 = .ok (.ifCond .eq 11, 3) := by decide +kernel
theorem d_Road_insteadOf_21 : decode prog_9_method_3_code 21 = .ok (.aload 4, 2) := by decide +kernel
theorem d_Road_insteadOf_23 : decode prog_9_method_3_code 23 = .ok (.getfield 57, 3) := by decide +kernel
theorem d_Road_insteadOf_26 : decode prog_9_method_3_code 26 = .ok (.goto 8, 3) := by decide +kernel
theorem d_Road_insteadOf_29 : decode prog_9_method_3_code 29 = .ok (.aload 4, 2) := by decide +kernel
theorem d_Road_insteadOf_31 : decode prog_9_method_3_code 31 = .ok (.getfield 62, 3) := by decide +kernel
theorem d_Road_insteadOf_34 : decode prog_9_method_3_code 34 = .ok (.istore 5, 2) := by decide +kernel
theorem d_Road_insteadOf_36 : decode prog_9_method_3_code 36 = .ok (.iload_n 1, 1) := by decide +kernel
theorem d_Road_insteadOf_37 : decode prog_9_method_3_code 37 = .ok (.istore 6, 2) := by decide +kernel
theorem d_Road_insteadOf_39 : decode prog_9_method_3_code 39 = .ok (.iload_n 1, 1) := by decide +kernel
theorem d_Road_insteadOf_40 : decode prog_9_method_3_code 40 = .ok (.istore 7, 2) := by decide +kernel
theorem d_Road_insteadOf_42 : decode prog_9_method_3_code 42 = .ok (.iload 7, 2) := by decide +kernel
theorem d_Road_insteadOf_44 : decode prog_9_method_3_code 44 = .ok (.aload 4, 2) := by decide +kernel
theorem d_Road_insteadOf_46 : decode prog_9_method_3_code 46 = .ok (.getfield 65, 3) := by decide +kernel
theorem d_Road_insteadOf_49 : decode prog_9_method_3_code 49 = .ok (.if_icmp .gt 38, 3) := by decide +kernel
theorem d_Road_insteadOf_52 : decode prog_9_method_3_code 52 = .ok (.aload_n 3, 1) := by decide +kernel
theorem d_Road_insteadOf_53 : decode prog_9_method_3_code 53 = .ok (.iload 7, 2) := by decide +kernel
theorem d_Road_insteadOf_55 : decode prog_9_method_3_code 55 = .ok (.invokevirtual 53, 3) := by decide +kernel
theorem d_Road_insteadOf_58 : decode prog_9_method_3_code 58 = .ok (.aload 4, 2) := by decide +kernel
theorem d_Road_insteadOf_60 : decode prog_9_method_3_code 60 = .ok (.if_acmp .ne 21, 3) := by decide +kernel
theorem d_Road_insteadOf_63 : decode prog_9_method_3_code 63 = .ok (.iload 7, 2) := by decide +kernel
theorem d_Road_insteadOf_65 : decode prog_9_method_3_code 65 = .ok (.istore 6, 2) := by decide +kernel
theorem d_Road_insteadOf_67 : decode prog_9_method_3_code 67 = .ok (.aload_n 2, 1) := by decide +kernel
theorem d_Road_insteadOf_68 : decode prog_9_method_3_code 68 = .ok (.iload 7, 2) := by decide +kernel
theorem d_Road_insteadOf_70 : decode prog_9_method_3_code 70 = .ok (.iload 5, 2) := by decide +kernel
theorem d_Road_insteadOf_72 : decode prog_9_method_3_code 72 = .ok (.invokevirtual 68, 3) := by decide +kernel
theorem d_Road_insteadOf_75 : decode prog_9_method_3_code 75 = .ok (.ifCond .eq 6, 3) := by decide +kernel
theorem d_Road_insteadOf_78 : decode prog_9_method_3_code 78 = .ok (.iload 7, 2) := by decide +kernel
theorem d_Road_insteadOf_80 : decode prog_9_method_3_code 80 = .ok (.ireturn, 1) := by decide +kernel
theorem d_Road_insteadOf_81 : decode prog_9_method_3_code 81 = .ok (.iinc 7 1, 3) := by decide +kernel
theorem d_Road_insteadOf_84 : decode prog_9_method_3_code 84 = .ok (.goto (-42), 3) := by decide +kernel
theorem d_Road_insteadOf_87 : decode prog_9_method_3_code 87 = .ok (.iload 6, 2) := by decide +kernel
theorem d_Road_insteadOf_89 : decode prog_9_method_3_code 89 = .ok (.ireturn, 1) := by decide +kernel
theorem d_Road_isToComeAgain_0 : decode prog_9_method_4_code 0 = .ok (.aload_n 2, 1) := by decide +kernel
theorem d_Road_isToComeAgain_1 : decode prog_9_method_4_code 1 = .ok (.iload_n 1, 1) := by decide +kernel
theorem d_Road_isToComeAgain_2 : decode prog_9_method_4_code 2 = .ok (.invokevirtual 74, 3) := by decide +kernel
theorem d_Road_isToComeAgain_5 : decode prog_9_method_4_code 5 = .ok (.astore_n 3, 1) := by decide +kernel
theorem d_Road_isToComeAgain_6 : decode prog_9_method_4_code 6 = .ok (.aload_n 0, 1) := by decide +kernel
theorem d_Road_isToComeAgain_7 : decode prog_9_method_4_code 7 = .ok (.getfield 29, 3) := by decide +kernel
theorem d_Road_isToComeAgain_10 : decode prog_9_method_4_code 10 = .ok (.ifCond .eq 22, 3) := by decide +kernel
theorem d_Road_isToComeAgain_13 : decode prog_9_method_4_code 13 = .ok (.aload_n 3, 1) := by decide +kernel
theorem d_Road_isToComeAgain_14 : decode prog_9_method_4_code 14 = .ok (.ifnull 18, 3) := by decide +kernel
theorem d_Road_isToComeAgain_17 : decode prog_9_method_4_code 17 = .ok (.aload_n 3, 1) := by decide +kernel
theorem d_Road_isToComeAgain_18 : decode prog_9_method_4_code 18 = .ok (.getfield 57, 3) := by decide +kernel
theorem d_Road_isToComeAgain_21 : decode prog_9_method_4_code 21 = .ok (.aload_n 3, 1) := by decide +kernel
theorem d_Road_isToComeAgain_22 : decode prog_9_method_4_code 22 = .ok (.getfield 62, 3) := by decide +kernel
theorem d_Road_isToComeAgain_25 : decode prog_9_method_4_code 25 = .ok (.if_icmp .ge 7, 3) := by decide +kernel
theorem d_Road_isToComeAgain_28 : decode prog_9_method_4_code 28 = .ok (.iconst 1, 1) := by decide +kernel
theorem d_Road_isToComeAgain_29 : decode prog_9_method_4_code 29 = .ok (.goto 4, 3) := by decide +kernel
theorem d_Road_isToComeAgain_32 : decode prog_9_method_4_code 32 = .ok (.iconst 0, 1) := by decide +kernel
theorem d_Road_isToComeAgain_33 : decode prog_9_method_4_code 33 = .ok (.ireturn, 1) := by decide +kernel
theorem d_Road_leaveRepeatAtLastPass_0 : decode prog_9_method_5_code 0 = .ok (.aload_n 2, 1) := by decide +kernel
theorem d_Road_leaveRepeatAtLastPass_1 : decode prog_9_method_5_code 1 = .ok (.iload_n 0, 1) := by decide +kernel
theorem d_Road_leaveRepeatAtLastPass_2 : decode prog_9_method_5_code 2 = .ok (.invokevirtual 53, 3) := by decide +kernel
theorem d_Road_leaveRepeatAtLastPass_5 : decode prog_9_method_5_code 5 = .ok (.astore_n 3, 1) := by decide +kernel
theorem d_Road_leaveRepeatAtLastPass_6 : decode prog_9_method_5_code 6 = .ok (.aload_n 3, 1) := by decide +kernel
theorem d_Road_leaveRepeatAtLastPass_7 : decode prog_9_method_5_code 7 = .ok (.ifnull 20, 3) := by decide +kernel
theorem d_Road_leaveRepeatAtLastPass_10 : decode prog_9_method_5_code 10 = .ok (.aload_n 1, 1) := by decide +kernel
theorem d_Road_leaveRepeatAtLastPass_11 : decode prog_9_method_5_code 11 = .ok (.iload_n 0, 1) := by decide +kernel
theorem d_Road_leaveRepeatAtLastPass_12 : decode prog_9_method_5_code 12 = .ok (.aload_n 3, 1) := by decide +kernel
theorem d_Road_leaveRepeatAtLastPass_13 : decode prog_9_method_5_code 13 = .ok (.getfield 62, 3) := by decide +kernel
theorem d_Road_leaveRepeatAtLastPass_16 : decode prog_9_method_5_code 16 = .ok (.invokevirtual 68, 3) := by decide +kernel
theorem d_Road_leaveRepeatAtLastPass_19 : decode prog_9_method_5_code 19 = .ok (.ifCond .eq 8, 3) := by decide +kernel
theorem d_Road_leaveRepeatAtLastPass_22 : decode prog_9_method_5_code 22 = .ok (.aload_n 3, 1) := by decide +kernel
theorem d_Road_leaveRepeatAtLastPass_23 : decode prog_9_method_5_code 23 = .ok (.iconst 1, 1) := by decide +kernel
theorem d_Road_leaveRepeatAtLastPass_24 : decode prog_9_method_5_code 24 = .ok (.putfield 57, 3) := by decide +kernel
theorem d_Road_leaveRepeatAtLastPass_27 : decode prog_9_method_5_code 27 = .ok (.return_, 1) := by decide +kernel
theorem d_Road_behind_0 : decode prog_9_method_6_code 0 = .ok (.aload 4, 2) := by decide +kernel
theorem d_Road_behind_2 : decode prog_9_method_6_code 2 = .ok (.iload_n 1, 1) := by decide +kernel
theorem d_Road_behind_3 : decode prog_9_method_6_code 3 = .ok (.invokevirtual 77, 3) := by decide +kernel
theorem d_Road_behind_6 : decode prog_9_method_6_code 6 = .ok (.astore 5, 2) := by decide +kernel
theorem d_Road_behind_8 : decode prog_9_method_6_code 8 = .ok (.aload 5, 2) := by decide +kernel
theorem d_Road_behind_10 : decode prog_9_method_6_code 10 = .ok (.ifnull 46, 3) := by decide +kernel
theorem d_Road_behind_13 : decode prog_9_method_6_code 13 = .ok (.aload_n 0, 1) := by decide +kernel
theorem d_Road_behind_14 : decode prog_9_method_6_code 14 = .ok (.getfield 29, 3) := by decide +kernel
theorem d_Road_behind_17 : decode prog_9_method_6_code 17 = .ok (.ifCond .eq 39, 3) := by decide +kernel
theorem d_Road_behind_20 : decode prog_9_method_6_code 20 = .ok (.aload 5, 2) := by decide +kernel
theorem d_Road_behind_22 : decode prog_9_method_6_code 22 = .ok (.getfield 57, 3) := by decide +kernel
theorem d_Road_behind_25 : decode prog_9_method_6_code 25 = .ok (.aload 5, 2) := by decide +kernel
theorem d_Road_behind_27 : decode prog_9_method_6_code 27 = .ok (.getfield 62, 3) := by decide +kernel
theorem d_Road_behind_30 : decode prog_9_method_6_code 30 = .ok (.if_icmp .ge 20, 3) := by decide +kernel
theorem d_Road_behind_33 : decode prog_9_method_6_code 33 = .ok (.aload 5, 2) := by decide +kernel
theorem d_Road_behind_35 : decode prog_9_method_6_code 35 = .ok (.dup, 1) := by decide +kernel
theorem d_Road_behind_36 : decode prog_9_method_6_code 36 = .ok (.getfield 57, 3) := by decide +kernel
theorem d_Road_behind_39 : decode prog_9_method_6_code 39 = .ok (.iconst 1, 1) := by decide +kernel
theorem d_Road_behind_40 : decode prog_9_method_6_code 40 = .ok (.iadd, 1) := by decide +kernel
theorem d_Road_behind_41 : decode prog_9_method_6_code 41 = .ok (.putfield 57, 3) := by decide +kernel
theorem d_Road_behind_44 : decode prog_9_method_6_code 44 = .ok (.aload 5, 2) := by decide +kernel
theorem d_Road_behind_46 : decode prog_9_method_6_code 46 = .ok (.getfield 80, 3) := by decide +kernel
theorem d_Road_behind_49 : decode prog_9_method_6_code 49 = .ok (.ireturn, 1) := by decide +kernel
theorem d_Road_behind_50 : decode prog_9_method_6_code 50 = .ok (.aload 5, 2) := by decide +kernel
theorem d_Road_behind_52 : decode prog_9_method_6_code 52 = .ok (.iconst 1, 1) := by decide +kernel
theorem d_Road_behind_53 : decode prog_9_method_6_code 53 = .ok (.putfield 57, 3) := by decide +kernel
theorem d_Road_behind_56 : decode prog_9_method_6_code 56 = .ok (.iload_n 2, 1) := by decide +kernel
theorem d_Road_behind_57 : decode prog_9_method_6_code 57 = .ok (.ifCond .ne 105, 3) := by decide +kernel
theorem d_Road_behind_60 : decode prog_9_method_6_code 60 = .ok (.aload_n 0, 1) := by decide +kernel
theorem d_Road_behind_61 : decode prog_9_method_6_code 61 = .ok (.getfield 19, 3) := by decide +kernel
theorem d_Road_behind_64 : decode prog_9_method_6_code 64 = .ok (.ifCond .eq 22, 3) := by decide +kernel
theorem d_Road_behind_67 : decode prog_9_method_6_code 67 = .ok (.aload_n 0, 1) := by decide +kernel
theorem d_Road_behind_68 : decode prog_9_method_6_code 68 = .ok (.getfield 26, 3) := by decide +kernel
theorem d_Road_behind_71 : decode prog_9_method_6_code 71 = .ok (.iconst 1, 1) := by decide +kernel
theorem d_Road_behind_72 : decode prog_9_method_6_code 72 = .ok (.if_icmp .ne 14, 3) := by decide +kernel
theorem d_Road_behind_75 : decode prog_9_method_6_code 75 = .ok (.aload_n 3, 1) := by decide +kernel
theorem d_Road_behind_76 : decode prog_9_method_6_code 76 = .ok (.iload_n 1, 1) := by decide +kernel
theorem d_Road_behind_77 : decode prog_9_method_6_code 77 = .ok (.iconst 5, 1) := by decide +kernel
theorem d_Road_behind_78 : decode prog_9_method_6_code 78 = .ok (.invokevirtual 85, 3) := by decide +kernel
theorem d_Road_behind_81 : decode prog_9_method_6_code 81 = .ok (.ifCond .eq 5, 3) := by decide +kernel
theorem d_Road_behind_84 : decode prog_9_method_6_code 84 = .ok (.iconst (-1), 1) := by decide +kernel
theorem d_Road_behind_85 : decode prog_9_method_6_code 85 = .ok (.ireturn, 1) := by decide +kernel
theorem d_Road_behind_86 : decode prog_9_method_6_code 86 = .ok (.aload_n 0, 1) := by decide +kernel
theorem d_Road_behind_87 : decode prog_9_method_6_code 87 = .ok (.getfield 19, 3) := by decide +kernel
theorem d_Road_behind_90 : decode prog_9_method_6_code 90 = .ok (.ifCond .eq 46, 3) := by decide +kernel
theorem d_Road_behind_93 : decode prog_9_method_6_code 93 = .ok (.aload_n 0, 1) := by decide +kernel
theorem d_Road_behind_94 : decode prog_9_method_6_code 94 = .ok (.getfield 26, 3) := by decide +kernel
theorem d_Road_behind_97 : decode prog_9_method_6_code 97 = .ok (.iconst 2, 1) := by decide +kernel
theorem d_Road_behind_98 : decode prog_9_method_6_code 98 = .ok (.if_icmp .ne 38, 3) := by decide +kernel
theorem d_Road_behind_101 : decode prog_9_method_6_code 101 = .ok (.aload_n 0, 1) := by decide +kernel
theorem d_Road_behind_102 : decode prog_9_method_6_code 102 = .ok (.getfield 23, 3) := by decide +kernel
theorem d_Road_behind_105 : decode prog_9_method_6_code 105 = .ok (.ifCond .ne 31, 3) := by decide +kernel
theorem d_Road_behind_108 : decode prog_9_method_6_code 108 = .ok (.aload_n 3, 1) := by decide +kernel
theorem d_Road_behind_109 : decode prog_9_method_6_code 109 = .ok (.iload_n 1, 1) := by decide +kernel
theorem d_Road_behind_110 : decode prog_9_method_6_code 110 = .ok (.bipush 6, 2) := by decide +kernel
theorem d_Road_behind_112 : decode prog_9_method_6_code 112 = .ok (.invokevirtual 85, 3) := by decide +kernel
theorem d_Road_behind_115 : decode prog_9_method_6_code 115 = .ok (.ifCond .eq 21, 3) := by decide +kernel
theorem d_Road_behind_118 : decode prog_9_method_6_code 118 = .ok (.aload_n 0, 1) := by decide +kernel
theorem d_Road_behind_119 : decode prog_9_method_6_code 119 = .ok (.iconst 1, 1) := by decide +kernel
theorem d_Road_behind_120 : decode prog_9_method_6_code 120 = .ok (.putfield 23, 3) := by decide +kernel
theorem d_Road_behind_123 : decode prog_9_method_6_code 123 = .ok (.aload_n 3, 1) := by decide +kernel
theorem d_Road_behind_124 : decode prog_9_method_6_code 124 = .ok (.iconst 4, 1) := by decide +kernel
theorem d_Road_behind_125 : decode prog_9_method_6_code 125 = .ok (.iconst 0, 1) := by decide +kernel
theorem d_Road_behind_126 : decode prog_9_method_6_code 126 = .ok (.aload_n 3, 1) := by decide +kernel
theorem d_Road_behind_127 : decode prog_9_method_6_code 127 = .ok (.getfield 88, 3) := by decide +kernel
theorem d_Road_behind_130 : decode prog_9_method_6_code 130 = .ok (.iconst 1, 1) := by decide +kernel
theorem d_Road_behind_131 : decode prog_9_method_6_code 131 = .ok (.isub, 1) := by decide +kernel
theorem d_Road_behind_132 : decode prog_9_method_6_code 132 = .ok (.invokevirtual 91, 3) := by decide +kernel
theorem d_Road_behind_135 : decode prog_9_method_6_code 135 = .ok (.ireturn, 1) := by decide +kernel
theorem d_Road_behind_136 : decode prog_9_method_6_code 136 = .ok (.aload_n 0, 1) := by decide +kernel
theorem d_Road_behind_137 : decode prog_9_method_6_code 137 = .ok (.getfield 19, 3) := by decide +kernel
theorem d_Road_behind_140 : decode prog_9_method_6_code 140 = .ok (.ifCond .ne 22, 3) := by decide +kernel
theorem d_Road_behind_143 : decode prog_9_method_6_code 143 = .ok (.aload_n 3, 1) := by decide +kernel
theorem d_Road_behind_144 : decode prog_9_method_6_code 144 = .ok (.iload_n 1, 1) := by decide +kernel
theorem d_Road_behind_145 : decode prog_9_method_6_code 145 = .ok (.bipush 7, 2) := by decide +kernel
theorem d_Road_behind_147 : decode prog_9_method_6_code 147 = .ok (.invokevirtual 85, 3) := by decide +kernel
theorem d_Road_behind_150 : decode prog_9_method_6_code 150 = .ok (.ifCond .eq 12, 3) := by decide +kernel
theorem d_Road_behind_153 : decode prog_9_method_6_code 153 = .ok (.aload_n 0, 1) := by decide +kernel
theorem d_Road_behind_154 : decode prog_9_method_6_code 154 = .ok (.iload_n 1, 1) := by decide +kernel
theorem d_Road_behind_155 : decode prog_9_method_6_code 155 = .ok (.aload_n 3, 1) := by decide +kernel
theorem d_Road_behind_156 : decode prog_9_method_6_code 156 = .ok (.aload 4, 2) := by decide +kernel
theorem d_Road_behind_158 : decode prog_9_method_6_code 158 = .ok (.invokevirtual 95, 3) := by decide +kernel
theorem d_Road_behind_161 : decode prog_9_method_6_code 161 = .ok (.ireturn, 1) := by decide +kernel
theorem d_Road_behind_162 : decode prog_9_method_6_code 162 = .ok (.aload_n 3, 1) := by decide +kernel
theorem d_Road_behind_163 : decode prog_9_method_6_code 163 = .ok (.iload_n 1, 1) := by decide +kernel
theorem d_Road_behind_164 : decode prog_9_method_6_code 164 = .ok (.iconst 1, 1) := by decide +kernel
theorem d_Road_behind_165 : decode prog_9_method_6_code 165 = .ok (.iadd, 1) := by decide +kernel
theorem d_Road_behind_166 : decode prog_9_method_6_code 166 = .ok (.invokevirtual 98, 3) := by decide +kernel
theorem d_Road_behind_169 : decode prog_9_method_6_code 169 = .ok (.ifCond .eq 9, 3) := by decide +kernel
theorem d_Road_behind_172 : decode prog_9_method_6_code 172 = .ok (.iload_n 1, 1) := by decide +kernel
theorem d_Road_behind_173 : decode prog_9_method_6_code 173 = .ok (.iconst 1, 1) := by decide +kernel
theorem d_Road_behind_174 : decode prog_9_method_6_code 174 = .ok (.iadd, 1) := by decide +kernel
theorem d_Road_behind_175 : decode prog_9_method_6_code 175 = .ok (.goto 4, 3) := by decide +kernel
theorem d_Road_behind_178 : decode prog_9_method_6_code 178 = .ok (.iconst (-1), 1) := by decide +kernel
theorem d_Road_behind_179 : decode prog_9_method_6_code 179 = .ok (.ireturn, 1) := by decide +kernel
theorem d_Road_jumpFrom_0 : decode prog_9_method_7_code 0 = .ok (.aload_n 2, 1) := by decide +kernel
theorem d_Road_jumpFrom_1 : decode prog_9_method_7_code 1 = .ok (.iload_n 1, 1) := by decide +kernel
theorem d_Road_jumpFrom_2 : decode prog_9_method_7_code 2 = .ok (.bipush 7, 2) := by decide +kernel
theorem d_Road_jumpFrom_4 : decode prog_9_method_7_code 4 = .ok (.invokevirtual 102, 3) := by decide +kernel
theorem d_Road_jumpFrom_7 : decode prog_9_method_7_code 7 = .ok (.istore 4, 2) := by decide +kernel
theorem d_Road_jumpFrom_9 : decode prog_9_method_7_code 9 = .ok (.aload_n 0, 1) := by decide +kernel
theorem d_Road_jumpFrom_10 : decode prog_9_method_7_code 10 = .ok (.iconst 1, 1) := by decide +kernel
theorem d_Road_jumpFrom_11 : decode prog_9_method_7_code 11 = .ok (.putfield 19, 3) := by decide +kernel
theorem d_Road_jumpFrom_14 : decode prog_9_method_7_code 14 = .ok (.aload_n 0, 1) := by decide +kernel
theorem d_Road_jumpFrom_15 : decode prog_9_method_7_code 15 = .ok (.iload 4, 2) := by decide +kernel
theorem d_Road_jumpFrom_17 : decode prog_9_method_7_code 17 = .ok (.invokestatic 106, 3) := by decide +kernel
theorem d_Road_jumpFrom_20 : decode prog_9_method_7_code 20 = .ok (.putfield 26, 3) := by decide +kernel
theorem d_Road_jumpFrom_23 : decode prog_9_method_7_code 23 = .ok (.aload_n 0, 1) := by decide +kernel
theorem d_Road_jumpFrom_24 : decode prog_9_method_7_code 24 = .ok (.iload 4, 2) := by decide +kernel
theorem d_Road_jumpFrom_26 : decode prog_9_method_7_code 26 = .ok (.invokestatic 109, 3) := by decide +kernel
theorem d_Road_jumpFrom_29 : decode prog_9_method_7_code 29 = .ok (.putfield 29, 3) := by decide +kernel
theorem d_Road_jumpFrom_32 : decode prog_9_method_7_code 32 = .ok (.aload_n 3, 1) := by decide +kernel
theorem d_Road_jumpFrom_33 : decode prog_9_method_7_code 33 = .ok (.invokevirtual 32, 3) := by decide +kernel
theorem d_Road_jumpFrom_36 : decode prog_9_method_7_code 36 = .ok (.aload_n 2, 1) := by decide +kernel
theorem d_Road_jumpFrom_37 : decode prog_9_method_7_code 37 = .ok (.iload_n 1, 1) := by decide +kernel
theorem d_Road_jumpFrom_38 : decode prog_9_method_7_code 38 = .ok (.invokestatic 112, 3) := by decide +kernel
theorem d_Road_jumpFrom_41 : decode prog_9_method_7_code 41 = .ok (.ireturn, 1) := by decide +kernel
theorem d_SR_plays_0 : decode prog_1_method_8_code 0 = .ok (.aload_n 0, 1) := by decide +kernel
theorem d_SR_plays_1 : decode prog_1_method_8_code 1 = .ok (.invokevirtual 140, 3) := by decide +kernel
theorem d_SR_plays_4 : decode prog_1_method_8_code 4 = .ok (.aload_n 0, 1) := by decide +kernel
theorem d_SR_plays_5 : decode prog_1_method_8_code 5 = .ok (.getfield 143, 3) := by decide +kernel
theorem d_SR_plays_8 : decode prog_1_method_8_code 8 = .ok (.ifCond .ne 13, 3) := by decide +kernel
theorem d_SR_plays_11 : decode prog_1_method_8_code 11 = .ok (.aload_n 0, 1) := by decide +kernel
theorem d_SR_plays_12 : decode prog_1_method_8_code 12 = .ok (.getfield 35, 3) := by decide +kernel
theorem d_SR_plays_15 : decode prog_1_method_8_code 15 = .ok (.getfield 146, 3) := by decide +kernel
theorem d_SR_plays_18 : decode prog_1_method_8_code 18 = .ok (.goto 4, 3) := by decide +kernel
theorem d_SR_plays_21 : decode prog_1_method_8_code 21 = .ok (.iconst (-1), 1) := by decide +kernel
theorem d_SR_plays_22 : decode prog_1_method_8_code 22 = .ok (.ireturn, 1) := by decide +kernel
theorem d_SR_bar_0 : decode prog_1_method_2_code 0 = .ok (.aload_n 0, 1) := by decide +kernel
theorem d_SR_bar_1 : decode prog_1_method_2_code 1 = .ok (.getfield 14, 3) := by decide +kernel
theorem d_SR_bar_4 : decode prog_1_method_2_code 4 = .ok (.iload_n 1, 1) := by decide +kernel
theorem d_SR_bar_5 : decode prog_1_method_2_code 5 = .ok (.invokevirtual 46, 3) := by decide +kernel
theorem d_SR_bar_8 : decode prog_1_method_2_code 8 = .ok (.ifCond .eq 24, 3) := by decide +kernel
theorem d_SR_bar_11 : decode prog_1_method_2_code 11 = .ok (.iload_n 2, 1) := by decide +kernel
theorem d_SR_bar_12 : decode prog_1_method_2_code 12 = .ok (.iconst 1, 1) := by decide +kernel
theorem d_SR_bar_13 : decode prog_1_method_2_code 13 = .ok (.bipush 32, 2) := by decide +kernel
theorem d_SR_bar_15 : decode prog_1_method_2_code 15 = .ok (.invokestatic 50, 3) := by decide +kernel
theorem d_SR_bar_18 : decode prog_1_method_2_code 18 = .ok (.ifCond .eq 14, 3) := by decide +kernel
theorem d_SR_bar_21 : decode prog_1_method_2_code 21 = .ok (.iload_n 3, 1) := by decide +kernel
theorem d_SR_bar_22 : decode prog_1_method_2_code 22 = .ok (.iconst 1, 1) := by decide +kernel
theorem d_SR_bar_23 : decode prog_1_method_2_code 23 = .ok (.sipush 1000, 3) := by decide +kernel
theorem d_SR_bar_26 : decode prog_1_method_2_code 26 = .ok (.invokestatic 50, 3) := by decide +kernel
theorem d_SR_bar_29 : decode prog_1_method_2_code 29 = .ok (.ifCond .ne 13, 3) := by decide +kernel
theorem d_SR_bar_32 : decode prog_1_method_2_code 32 = .ok (.new 54, 3) := by decide +kernel
theorem d_SR_bar_35 : decode prog_1_method_2_code 35 = .ok (.dup, 1) := by decide +kernel
theorem d_SR_bar_36 : decode prog_1_method_2_code 36 = .ok (.ldc 56, 2) := by decide +kernel
theorem d_SR_bar_38 : decode prog_1_method_2_code 38 = .ok (.invokespecial 58, 3) := by decide +kernel
theorem d_SR_bar_41 : decode prog_1_method_2_code 41 = .ok (.athrow, 1) := by decide +kernel
theorem d_SR_bar_42 : decode prog_1_method_2_code 42 = .ok (.aload_n 0, 1) := by decide +kernel
theorem d_SR_bar_43 : decode prog_1_method_2_code 43 = .ok (.getfield 21, 3) := by decide +kernel
theorem d_SR_bar_46 : decode prog_1_method_2_code 46 = .ok (.iload_n 1, 1) := by decide +kernel
theorem d_SR_bar_47 : decode prog_1_method_2_code 47 = .ok (.invokevirtual 61, 3) := by decide +kernel
theorem d_SR_bar_50 : decode prog_1_method_2_code 50 = .ok (.iload_n 2, 1) := by decide +kernel
theorem d_SR_bar_51 : decode prog_1_method_2_code 51 = .ok (.if_icmp .le 13, 3) := by decide +kernel
theorem d_SR_bar_54 : decode prog_1_method_2_code 54 = .ok (.new 65, 3) := by decide +kernel
theorem d_SR_bar_57 : decode prog_1_method_2_code 57 = .ok (.dup, 1) := by decide +kernel
theorem d_SR_bar_58 : decode prog_1_method_2_code 58 = .ok (.ldc 67, 2) := by decide +kernel
theorem d_SR_bar_60 : decode prog_1_method_2_code 60 = .ok (.invokespecial 69, 3) := by decide +kernel
theorem d_SR_bar_63 : decode prog_1_method_2_code 63 = .ok (.athrow, 1) := by decide +kernel
theorem d_SR_bar_64 : decode prog_1_method_2_code 64 = .ok (.aload_n 0, 1) := by decide +kernel
theorem d_SR_bar_65 : decode prog_1_method_2_code 65 = .ok (.getfield 14, 3) := by decide +kernel
theorem d_SR_bar_68 : decode prog_1_method_2_code 68 = .ok (.iload_n 1, 1) := by decide +kernel
theorem d_SR_bar_69 : decode prog_1_method_2_code 69 = .ok (.iload_n 2, 1) := by decide +kernel
theorem d_SR_bar_70 : decode prog_1_method_2_code 70 = .ok (.iload_n 3, 1) := by decide +kernel
theorem d_SR_bar_71 : decode prog_1_method_2_code 71 = .ok (.invokevirtual 70, 3) := by decide +kernel
theorem d_SR_bar_74 : decode prog_1_method_2_code 74 = .ok (.aload_n 0, 1) := by decide +kernel
theorem d_SR_bar_75 : decode prog_1_method_2_code 75 = .ok (.getfield 42, 3) := by decide +kernel
theorem d_SR_bar_78 : decode prog_1_method_2_code 78 = .ok (.invokevirtual 74, 3) := by decide +kernel
theorem d_SR_bar_81 : decode prog_1_method_2_code 81 = .ok (.return_, 1) := by decide +kernel
theorem d_SR_isWithin_0 : decode prog_1_method_25_code 0 = .ok (.iload_n 0, 1) := by decide +kernel
theorem d_SR_isWithin_1 : decode prog_1_method_25_code 1 = .ok (.iload_n 1, 1) := by decide +kernel
theorem d_SR_isWithin_2 : decode prog_1_method_25_code 2 = .ok (.if_icmp .lt 12, 3) := by decide +kernel
theorem d_SR_isWithin_5 : decode prog_1_method_25_code 5 = .ok (.iload_n 0, 1) := by decide +kernel
theorem d_SR_isWithin_6 : decode prog_1_method_25_code 6 = .ok (.iload_n 2, 1) := by decide +kernel
theorem d_SR_isWithin_7 : decode prog_1_method_25_code 7 = .ok (.if_icmp .gt 7, 3) := by decide +kernel
theorem d_SR_isWithin_10 : decode prog_1_method_25_code 10 = .ok (.iconst 1, 1) := by decide +kernel
theorem d_SR_isWithin_11 : decode prog_1_method_25_code 11 = .ok (.goto 4, 3) := by decide +kernel
theorem d_SR_isWithin_14 : decode prog_1_method_25_code 14 = .ok (.iconst 0, 1) := by decide +kernel
theorem d_SR_isWithin_15 : decode prog_1_method_25_code 15 = .ok (.ireturn, 1) := by decide +kernel
theorem d_Notes_endIn_0 : decode prog_5_method_7_code 0 = .ok (.iconst 0, 1) := by decide +kernel
theorem d_Notes_endIn_1 : decode prog_5_method_7_code 1 = .ok (.istore_n 2, 1) := by decide +kernel
theorem d_Notes_endIn_2 : decode prog_5_method_7_code 2 = .ok (.iconst 0, 1) := by decide +kernel
theorem d_Notes_endIn_3 : decode prog_5_method_7_code 3 = .ok (.istore_n 3, 1) := by decide +kernel
theorem d_Notes_endIn_4 : decode prog_5_method_7_code 4 = .ok (.iload_n 3, 1) := by decide +kernel
theorem d_Notes_endIn_5 : decode prog_5_method_7_code 5 = .ok (.aload_n 0, 1) := by decide +kernel
theorem d_Notes_endIn_6 : decode prog_5_method_7_code 6 = .ok (.getfield 17, 3) := by decide +kernel
theorem d_Notes_endIn_9 : decode prog_5_method_7_code 9 = .ok (.if_icmp .ge 36, 3) := by decide +kernel
theorem d_Notes_endIn_12 : decode prog_5_method_7_code 12 = .ok (.aload_n 0, 1) := by decide +kernel
theorem d_Notes_endIn_13 : decode prog_5_method_7_code 13 = .ok (.getfield 11, 3) := by decide +kernel
theorem d_Notes_endIn_16 : decode prog_5_method_7_code 16 = .ok (.iload_n 3, 1) := by decide +kernel
theorem d_Notes_endIn_17 : decode prog_5_method_7_code 17 = .ok (.aaload, 1) := by decide +kernel
theorem d_Notes_endIn_18 : decode prog_5_method_7_code 18 = .ok (.getfield 43, 3) := by decide +kernel
theorem d_Notes_endIn_21 : decode prog_5_method_7_code 21 = .ok (.iload_n 1, 1) := by decide +kernel
theorem d_Notes_endIn_22 : decode prog_5_method_7_code 22 = .ok (.if_icmp .ne 17, 3) := by decide +kernel
theorem d_Notes_endIn_25 : decode prog_5_method_7_code 25 = .ok (.iload_n 2, 1) := by decide +kernel
theorem d_Notes_endIn_26 : decode prog_5_method_7_code 26 = .ok (.aload_n 0, 1) := by decide +kernel
theorem d_Notes_endIn_27 : decode prog_5_method_7_code 27 = .ok (.getfield 11, 3) := by decide +kernel
theorem d_Notes_endIn_30 : decode prog_5_method_7_code 30 = .ok (.iload_n 3, 1) := by decide +kernel
theorem d_Notes_endIn_31 : decode prog_5_method_7_code 31 = .ok (.aaload, 1) := by decide +kernel
theorem d_Notes_endIn_32 : decode prog_5_method_7_code 32 = .ok (.invokevirtual 46, 3) := by decide +kernel
theorem d_Notes_endIn_35 : decode prog_5_method_7_code 35 = .ok (.invokestatic 50, 3) := by decide +kernel
theorem d_Notes_endIn_38 : decode prog_5_method_7_code 38 = .ok (.istore_n 2, 1) := by decide +kernel
theorem d_Notes_endIn_39 : decode prog_5_method_7_code 39 = .ok (.iinc 3 1, 3) := by decide +kernel
theorem d_Notes_endIn_42 : decode prog_5_method_7_code 42 = .ok (.goto (-38), 3) := by decide +kernel
theorem d_Notes_endIn_45 : decode prog_5_method_7_code 45 = .ok (.iload_n 2, 1) := by decide +kernel
theorem d_Notes_endIn_46 : decode prog_5_method_7_code 46 = .ok (.ireturn, 1) := by decide +kernel
theorem d_Sounding_forget_0 : decode prog_10_method_2_code 0 = .ok (.aload_n 0, 1) := by decide +kernel
theorem d_Sounding_forget_1 : decode prog_10_method_2_code 1 = .ok (.iconst (-1), 1) := by decide +kernel
theorem d_Sounding_forget_2 : decode prog_10_method_2_code 2 = .ok (.putfield 21, 3) := by decide +kernel
theorem d_Sounding_forget_5 : decode prog_10_method_2_code 5 = .ok (.return_, 1) := by decide +kernel
theorem d_SR_sign_0 : decode prog_1_method_3_code 0 = .ok (.aload_n 0, 1) := by decide +kernel
theorem d_SR_sign_1 : decode prog_1_method_3_code 1 = .ok (.getfield 14, 3) := by decide +kernel
theorem d_SR_sign_4 : decode prog_1_method_3_code 4 = .ok (.iload_n 1, 1) := by decide +kernel
theorem d_SR_sign_5 : decode prog_1_method_3_code 5 = .ok (.invokevirtual 46, 3) := by decide +kernel
theorem d_SR_sign_8 : decode prog_1_method_3_code 8 = .ok (.ifCond .eq 18, 3) := by decide +kernel
theorem d_SR_sign_11 : decode prog_1_method_3_code 11 = .ok (.iload_n 2, 1) := by decide +kernel
theorem d_SR_sign_12 : decode prog_1_method_3_code 12 = .ok (.invokestatic 77, 3) := by decide +kernel
theorem d_SR_sign_15 : decode prog_1_method_3_code 15 = .ok (.ifCond .eq 11, 3) := by decide +kernel
theorem d_SR_sign_18 : decode prog_1_method_3_code 18 = .ok (.iload_n 2, 1) := by decide +kernel
theorem d_SR_sign_19 : decode prog_1_method_3_code 19 = .ok (.iload_n 3, 1) := by decide +kernel
theorem d_SR_sign_20 : decode prog_1_method_3_code 20 = .ok (.invokestatic 80, 3) := by decide +kernel
theorem d_SR_sign_23 : decode prog_1_method_3_code 23 = .ok (.ifCond .ne 13, 3) := by decide +kernel
theorem d_SR_sign_26 : decode prog_1_method_3_code 26 = .ok (.new 54, 3) := by decide +kernel
theorem d_SR_sign_29 : decode prog_1_method_3_code 29 = .ok (.dup, 1) := by decide +kernel
theorem d_SR_sign_30 : decode prog_1_method_3_code 30 = .ok (.ldc 84, 2) := by decide +kernel
theorem d_SR_sign_32 : decode prog_1_method_3_code 32 = .ok (.invokespecial 58, 3) := by decide +kernel
theorem d_SR_sign_35 : decode prog_1_method_3_code 35 = .ok (.athrow, 1) := by decide +kernel
theorem d_SR_sign_36 : decode prog_1_method_3_code 36 = .ok (.aload_n 0, 1) := by decide +kernel
theorem d_SR_sign_37 : decode prog_1_method_3_code 37 = .ok (.getfield 14, 3) := by decide +kernel
theorem d_SR_sign_40 : decode prog_1_method_3_code 40 = .ok (.iload_n 1, 1) := by decide +kernel
theorem d_SR_sign_41 : decode prog_1_method_3_code 41 = .ok (.iload_n 2, 1) := by decide +kernel
theorem d_SR_sign_42 : decode prog_1_method_3_code 42 = .ok (.invokevirtual 86, 3) := by decide +kernel
theorem d_SR_sign_45 : decode prog_1_method_3_code 45 = .ok (.istore 4, 2) := by decide +kernel
theorem d_SR_sign_47 : decode prog_1_method_3_code 47 = .ok (.iload_n 3, 1) := by decide +kernel
theorem d_SR_sign_48 : decode prog_1_method_3_code 48 = .ok (.iload 4, 2) := by decide +kernel
theorem d_SR_sign_50 : decode prog_1_method_3_code 50 = .ok (.if_icmp .ne 5, 3) := by decide +kernel
theorem d_SR_sign_53 : decode prog_1_method_3_code 53 = .ok (.iconst 0, 1) := by decide +kernel
theorem d_SR_sign_54 : decode prog_1_method_3_code 54 = .ok (.ireturn, 1) := by decide +kernel
theorem d_SR_sign_55 : decode prog_1_method_3_code 55 = .ok (.iload_n 3, 1) := by decide +kernel
theorem d_SR_sign_56 : decode prog_1_method_3_code 56 = .ok (.ifCond .eq 18, 3) := by decide +kernel
theorem d_SR_sign_59 : decode prog_1_method_3_code 59 = .ok (.iload 4, 2) := by decide +kernel
theorem d_SR_sign_61 : decode prog_1_method_3_code 61 = .ok (.ifCond .eq 13, 3) := by decide +kernel
theorem d_SR_sign_64 : decode prog_1_method_3_code 64 = .ok (.new 65, 3) := by decide +kernel
theorem d_SR_sign_67 : decode prog_1_method_3_code 67 = .ok (.dup, 1) := by decide +kernel
theorem d_SR_sign_68 : decode prog_1_method_3_code 68 = .ok (.ldc 90, 2) := by decide +kernel
theorem d_SR_sign_70 : decode prog_1_method_3_code 70 = .ok (.invokespecial 69, 3) := by decide +kernel
theorem d_SR_sign_73 : decode prog_1_method_3_code 73 = .ok (.athrow, 1) := by decide +kernel
theorem d_SR_sign_74 : decode prog_1_method_3_code 74 = .ok (.aload_n 0, 1) := by decide +kernel
theorem d_SR_sign_75 : decode prog_1_method_3_code 75 = .ok (.getfield 14, 3) := by decide +kernel
theorem d_SR_sign_78 : decode prog_1_method_3_code 78 = .ok (.iload_n 1, 1) := by decide +kernel
theorem d_SR_sign_79 : decode prog_1_method_3_code 79 = .ok (.iload_n 2, 1) := by decide +kernel
theorem d_SR_sign_80 : decode prog_1_method_3_code 80 = .ok (.iload_n 3, 1) := by decide +kernel
theorem d_SR_sign_81 : decode prog_1_method_3_code 81 = .ok (.invokevirtual 92, 3) := by decide +kernel
theorem d_SR_sign_84 : decode prog_1_method_3_code 84 = .ok (.aload_n 0, 1) := by decide +kernel
theorem d_SR_sign_85 : decode prog_1_method_3_code 85 = .ok (.iconst 0, 1) := by decide +kernel
theorem d_SR_sign_86 : decode prog_1_method_3_code 86 = .ok (.putfield 95, 3) := by decide +kernel
theorem d_SR_sign_89 : decode prog_1_method_3_code 89 = .ok (.aload_n 0, 1) := by decide +kernel
theorem d_SR_sign_90 : decode prog_1_method_3_code 90 = .ok (.getfield 42, 3) := by decide +kernel
theorem d_SR_sign_93 : decode prog_1_method_3_code 93 = .ok (.invokevirtual 74, 3) := by decide +kernel
theorem d_SR_sign_96 : decode prog_1_method_3_code 96 = .ok (.iconst 1, 1) := by decide +kernel
theorem d_SR_sign_97 : decode prog_1_method_3_code 97 = .ok (.ireturn, 1) := by decide +kernel
theorem d_SR_isKind_0 : decode prog_1_method_23_code 0 = .ok (.iload_n 0, 1) := by decide +kernel
theorem d_SR_isKind_1 : decode prog_1_method_23_code 1 = .ok (.iconst 0, 1) := by decide +kernel
theorem d_SR_isKind_2 : decode prog_1_method_23_code 2 = .ok (.bipush 9, 2) := by decide +kernel
theorem d_SR_isKind_4 : decode prog_1_method_23_code 4 = .ok (.invokestatic 50, 3) := by decide +kernel
theorem d_SR_isKind_7 : decode prog_1_method_23_code 7 = .ok (.ireturn, 1) := by decide +kernel
theorem d_SR_isValue_0 : decode prog_1_method_24_code 0 = .ok (.iload_n 1, 1) := by decide +kernel
theorem d_SR_isValue_1 : decode prog_1_method_24_code 1 = .ok (.ifCond .eq 27, 3) := by decide +kernel
theorem d_SR_isValue_4 : decode prog_1_method_24_code 4 = .ok (.iload_n 0, 1) := by decide +kernel
theorem d_SR_isValue_5 : decode prog_1_method_24_code 5 = .ok (.invokestatic 77, 3) := by decide +kernel
theorem d_SR_isValue_8 : decode prog_1_method_24_code 8 = .ok (.ifCond .eq 24, 3) := by decide +kernel
theorem d_SR_isValue_11 : decode prog_1_method_24_code 11 = .ok (.iload_n 1, 1) := by decide +kernel
theorem d_SR_isValue_12 : decode prog_1_method_24_code 12 = .ok (.getstatic 226, 3) := by decide +kernel
theorem d_SR_isValue_15 : decode prog_1_method_24_code 15 = .ok (.iload_n 0, 1) := by decide +kernel
theorem d_SR_isValue_16 : decode prog_1_method_24_code 16 = .ok (.iaload, 1) := by decide +kernel
theorem d_SR_isValue_17 : decode prog_1_method_24_code 17 = .ok (.getstatic 230, 3) := by decide +kernel
theorem d_SR_isValue_20 : decode prog_1_method_24_code 20 = .ok (.iload_n 0, 1) := by decide +kernel
theorem d_SR_isValue_21 : decode prog_1_method_24_code 21 = .ok (.iaload, 1) := by decide +kernel
theorem d_SR_isValue_22 : decode prog_1_method_24_code 22 = .ok (.invokestatic 50, 3) := by decide +kernel
theorem d_SR_isValue_25 : decode prog_1_method_24_code 25 = .ok (.ifCond .eq 7, 3) := by decide +kernel
theorem d_SR_isValue_28 : decode prog_1_method_24_code 28 = .ok (.iconst 1, 1) := by decide +kernel
theorem d_SR_isValue_29 : decode prog_1_method_24_code 29 = .ok (.goto 4, 3) := by decide +kernel
theorem d_SR_isValue_32 : decode prog_1_method_24_code 32 = .ok (.iconst 0, 1) := by decide +kernel
theorem d_SR_isValue_33 : decode prog_1_method_24_code 33 = .ok (.ireturn, 1) := by decide +kernel
theorem d_SR_note_0 : decode prog_1_method_5_code 0 = .ok (.iload_n 1, 1) := by decide +kernel
theorem d_SR_note_1 : decode prog_1_method_5_code 1 = .ok (.invokestatic 99, 3) := by decide +kernel
theorem d_SR_note_4 : decode prog_1_method_5_code 4 = .ok (.aload_n 0, 1) := by decide +kernel
theorem d_SR_note_5 : decode prog_1_method_5_code 5 = .ok (.getfield 14, 3) := by decide +kernel
theorem d_SR_note_8 : decode prog_1_method_5_code 8 = .ok (.iload_n 2, 1) := by decide +kernel
theorem d_SR_note_9 : decode prog_1_method_5_code 9 = .ok (.invokevirtual 46, 3) := by decide +kernel
theorem d_SR_note_12 : decode prog_1_method_5_code 12 = .ok (.ifCond .eq 14, 3) := by decide +kernel
theorem d_SR_note_15 : decode prog_1_method_5_code 15 = .ok (.iload 5, 2) := by decide +kernel
theorem d_SR_note_17 : decode prog_1_method_5_code 17 = .ok (.iconst 0, 1) := by decide +kernel
theorem d_SR_note_18 : decode prog_1_method_5_code 18 = .ok (.bipush 127, 2) := by decide +kernel
theorem d_SR_note_20 : decode prog_1_method_5_code 20 = .ok (.invokestatic 50, 3) := by decide +kernel
theorem d_SR_note_23 : decode prog_1_method_5_code 23 = .ok (.ifCond .ne 13, 3) := by decide +kernel
theorem d_SR_note_26 : decode prog_1_method_5_code 26 = .ok (.new 54, 3) := by decide +kernel
theorem d_SR_note_29 : decode prog_1_method_5_code 29 = .ok (.dup, 1) := by decide +kernel
theorem d_SR_note_30 : decode prog_1_method_5_code 30 = .ok (.ldc 102, 2) := by decide +kernel
theorem d_SR_note_32 : decode prog_1_method_5_code 32 = .ok (.invokespecial 58, 3) := by decide +kernel
theorem d_SR_note_35 : decode prog_1_method_5_code 35 = .ok (.athrow, 1) := by decide +kernel
theorem d_SR_note_36 : decode prog_1_method_5_code 36 = .ok (.iload_n 3, 1) := by decide +kernel
theorem d_SR_note_37 : decode prog_1_method_5_code 37 = .ok (.ifCond .lt 24, 3) := by decide +kernel
theorem d_SR_note_40 : decode prog_1_method_5_code 40 = .ok (.iload 4, 2) := by decide +kernel
theorem d_SR_note_42 : decode prog_1_method_5_code 42 = .ok (.iconst 1, 1) := by decide +kernel
theorem d_SR_note_43 : decode prog_1_method_5_code 43 = .ok (.if_icmp .lt 18, 3) := by decide +kernel
theorem d_SR_note_46 : decode prog_1_method_5_code 46 = .ok (.iload 4, 2) := by decide +kernel
theorem d_SR_note_48 : decode prog_1_method_5_code 48 = .ok (.aload_n 0, 1) := by decide +kernel
theorem d_SR_note_49 : decode prog_1_method_5_code 49 = .ok (.getfield 14, 3) := by decide +kernel
theorem d_SR_note_52 : decode prog_1_method_5_code 52 = .ok (.iload_n 2, 1) := by decide +kernel
theorem d_SR_note_53 : decode prog_1_method_5_code 53 = .ok (.invokevirtual 104, 3) := by decide +kernel
theorem d_SR_note_56 : decode prog_1_method_5_code 56 = .ok (.iload_n 3, 1) := by decide +kernel
theorem d_SR_note_57 : decode prog_1_method_5_code 57 = .ok (.isub, 1) := by decide +kernel
theorem d_SR_note_58 : decode prog_1_method_5_code 58 = .ok (.if_icmp .le 13, 3) := by decide +kernel
theorem d_SR_note_61 : decode prog_1_method_5_code 61 = .ok (.new 54, 3) := by decide +kernel
theorem d_SR_note_64 : decode prog_1_method_5_code 64 = .ok (.dup, 1) := by decide +kernel
theorem d_SR_note_65 : decode prog_1_method_5_code 65 = .ok (.ldc 107, 2) := by decide +kernel
theorem d_SR_note_67 : decode prog_1_method_5_code 67 = .ok (.invokespecial 58, 3) := by decide +kernel
theorem d_SR_note_70 : decode prog_1_method_5_code 70 = .ok (.athrow, 1) := by decide +kernel
theorem d_SR_note_71 : decode prog_1_method_5_code 71 = .ok (.aload_n 0, 1) := by decide +kernel
theorem d_SR_note_72 : decode prog_1_method_5_code 72 = .ok (.getfield 21, 3) := by decide +kernel
theorem d_SR_note_75 : decode prog_1_method_5_code 75 = .ok (.invokevirtual 109, 3) := by decide +kernel
theorem d_SR_note_78 : decode prog_1_method_5_code 78 = .ok (.ifCond .ne 18, 3) := by decide +kernel
theorem d_SR_note_81 : decode prog_1_method_5_code 81 = .ok (.aload_n 0, 1) := by decide +kernel
theorem d_SR_note_82 : decode prog_1_method_5_code 82 = .ok (.getfield 21, 3) := by decide +kernel
theorem d_SR_note_85 : decode prog_1_method_5_code 85 = .ok (.iload_n 1, 1) := by decide +kernel
theorem d_SR_note_86 : decode prog_1_method_5_code 86 = .ok (.iload_n 2, 1) := by decide +kernel
theorem d_SR_note_87 : decode prog_1_method_5_code 87 = .ok (.iload_n 3, 1) := by decide +kernel
theorem d_SR_note_88 : decode prog_1_method_5_code 88 = .ok (.iload 5, 2) := by decide +kernel
theorem d_SR_note_90 : decode prog_1_method_5_code 90 = .ok (.invokevirtual 113, 3) := by decide +kernel
theorem d_SR_note_93 : decode prog_1_method_5_code 93 = .ok (.ifnull 13, 3) := by decide +kernel
theorem d_SR_note_96 : decode prog_1_method_5_code 96 = .ok (.new 65, 3) := by decide +kernel
theorem d_SR_note_99 : decode prog_1_method_5_code 99 = .ok (.dup, 1) := by decide +kernel
theorem d_SR_note_100 : decode prog_1_method_5_code 100 = .ok (.ldc 117, 2) := by decide +kernel
theorem d_SR_note_102 : decode prog_1_method_5_code 102 = .ok (.invokespecial 69, 3) := by decide +kernel
theorem d_SR_note_105 : decode prog_1_method_5_code 105 = .ok (.athrow, 1) := by decide +kernel
theorem d_SR_note_106 : decode prog_1_method_5_code 106 = .ok (.aload_n 0, 1) := by decide +kernel
theorem d_SR_note_107 : decode prog_1_method_5_code 107 = .ok (.getfield 21, 3) := by decide +kernel
theorem d_SR_note_110 : decode prog_1_method_5_code 110 = .ok (.new 119, 3) := by decide +kernel
theorem d_SR_note_113 : decode prog_1_method_5_code 113 = .ok (.dup, 1) := by decide +kernel
theorem d_SR_note_114 : decode prog_1_method_5_code 114 = .ok (.iload_n 1, 1) := by decide +kernel
theorem d_SR_note_115 : decode prog_1_method_5_code 115 = .ok (.iload_n 2, 1) := by decide +kernel
theorem d_SR_note_116 : decode prog_1_method_5_code 116 = .ok (.iload_n 3, 1) := by decide +kernel
theorem d_SR_note_117 : decode prog_1_method_5_code 117 = .ok (.iload 4, 2) := by decide +kernel
theorem d_SR_note_119 : decode prog_1_method_5_code 119 = .ok (.iload 5, 2) := by decide +kernel
theorem d_SR_note_121 : decode prog_1_method_5_code 121 = .ok (.iload 6, 2) := by decide +kernel
theorem d_SR_note_123 : decode prog_1_method_5_code 123 = .ok (.invokespecial 121, 3) := by decide +kernel
theorem d_SR_note_126 : decode prog_1_method_5_code 126 = .ok (.invokevirtual 124, 3) := by decide +kernel
theorem d_SR_note_129 : decode prog_1_method_5_code 129 = .ok (.aload_n 0, 1) := by decide +kernel
theorem d_SR_note_130 : decode prog_1_method_5_code 130 = .ok (.getfield 42, 3) := by decide +kernel
theorem d_SR_note_133 : decode prog_1_method_5_code 133 = .ok (.invokevirtual 74, 3) := by decide +kernel
theorem d_SR_note_136 : decode prog_1_method_5_code 136 = .ok (.aload_n 0, 1) := by decide +kernel
theorem d_SR_note_137 : decode prog_1_method_5_code 137 = .ok (.getfield 21, 3) := by decide +kernel
theorem d_SR_note_140 : decode prog_1_method_5_code 140 = .ok (.getfield 128, 3) := by decide +kernel
theorem d_SR_note_143 : decode prog_1_method_5_code 143 = .ok (.ireturn, 1) := by decide +kernel
theorem d_SR_needPart_0 : decode prog_1_method_21_code 0 = .ok (.iload_n 0, 1) := by decide +kernel
theorem d_SR_needPart_1 : decode prog_1_method_21_code 1 = .ok (.iconst 0, 1) := by decide +kernel
theorem d_SR_needPart_2 : decode prog_1_method_21_code 2 = .ok (.iconst 2, 1) := by decide +kernel
theorem d_SR_needPart_3 : decode prog_1_method_21_code 3 = .ok (.invokestatic 50, 3) := by decide +kernel
theorem d_SR_needPart_6 : decode prog_1_method_21_code 6 = .ok (.ifCond .ne 13, 3) := by decide +kernel
theorem d_SR_needPart_9 : decode prog_1_method_21_code 9 = .ok (.new 54, 3) := by decide +kernel
theorem d_SR_needPart_12 : decode prog_1_method_21_code 12 = .ok (.dup, 1) := by decide +kernel
theorem d_SR_needPart_13 : decode prog_1_method_21_code 13 = .ok (.ldc 219, 2) := by decide +kernel
theorem d_SR_needPart_15 : decode prog_1_method_21_code 15 = .ok (.invokespecial 58, 3) := by decide +kernel
theorem d_SR_needPart_18 : decode prog_1_method_21_code 18 = .ok (.athrow, 1) := by decide +kernel
theorem d_SR_needPart_19 : decode prog_1_method_21_code 19 = .ok (.return_, 1) := by decide +kernel
theorem d_Notes_isFull_0 : decode prog_5_method_2_code 0 = .ok (.aload_n 0, 1) := by decide +kernel
theorem d_Notes_isFull_1 : decode prog_5_method_2_code 1 = .ok (.getfield 17, 3) := by decide +kernel
theorem d_Notes_isFull_4 : decode prog_5_method_2_code 4 = .ok (.aload_n 0, 1) := by decide +kernel
theorem d_Notes_isFull_5 : decode prog_5_method_2_code 5 = .ok (.getfield 11, 3) := by decide +kernel
theorem d_Notes_isFull_8 : decode prog_5_method_2_code 8 = .ok (.arraylength, 1) := by decide +kernel
theorem d_Notes_isFull_9 : decode prog_5_method_2_code 9 = .ok (.if_icmp .lt 7, 3) := by decide +kernel
theorem d_Notes_isFull_12 : decode prog_5_method_2_code 12 = .ok (.iconst 1, 1) := by decide +kernel
theorem d_Notes_isFull_13 : decode prog_5_method_2_code 13 = .ok (.goto 4, 3) := by decide +kernel
theorem d_Notes_isFull_16 : decode prog_5_method_2_code 16 = .ok (.iconst 0, 1) := by decide +kernel
theorem d_Notes_isFull_17 : decode prog_5_method_2_code 17 = .ok (.ireturn, 1) := by decide +kernel
theorem d_Notes_seek_0 : decode prog_5_method_5_code 0 = .ok (.iconst 0, 1) := by decide +kernel
theorem d_Notes_seek_1 : decode prog_5_method_5_code 1 = .ok (.istore 5, 2) := by decide +kernel
theorem d_Notes_seek_3 : decode prog_5_method_5_code 3 = .ok (.iload 5, 2) := by decide +kernel
theorem d_Notes_seek_5 : decode prog_5_method_5_code 5 = .ok (.aload_n 0, 1) := by decide +kernel
theorem d_Notes_seek_6 : decode prog_5_method_5_code 6 = .ok (.getfield 17, 3) := by decide +kernel
theorem d_Notes_seek_9 : decode prog_5_method_5_code 9 = .ok (.if_icmp .ge 50, 3) := by decide +kernel
theorem d_Notes_seek_12 : decode prog_5_method_5_code 12 = .ok (.aload_n 0, 1) := by decide +kernel
theorem d_Notes_seek_13 : decode prog_5_method_5_code 13 = .ok (.getfield 11, 3) := by decide +kernel
theorem d_Notes_seek_16 : decode prog_5_method_5_code 16 = .ok (.iload 5, 2) := by decide +kernel
theorem d_Notes_seek_18 : decode prog_5_method_5_code 18 = .ok (.aaload, 1) := by decide +kernel
theorem d_Notes_seek_19 : decode prog_5_method_5_code 19 = .ok (.astore 6, 2) := by decide +kernel
theorem d_Notes_seek_21 : decode prog_5_method_5_code 21 = .ok (.aload 6, 2) := by decide +kernel
theorem d_Notes_seek_23 : decode prog_5_method_5_code 23 = .ok (.iload_n 1, 1) := by decide +kernel
theorem d_Notes_seek_24 : decode prog_5_method_5_code 24 = .ok (.iload_n 2, 1) := by decide +kernel
theorem d_Notes_seek_25 : decode prog_5_method_5_code 25 = .ok (.invokevirtual 33, 3) := by decide +kernel
theorem d_Notes_seek_28 : decode prog_5_method_5_code 28 = .ok (.ifCond .eq 25, 3) := by decide +kernel
theorem d_Notes_seek_31 : decode prog_5_method_5_code 31 = .ok (.aload 6, 2) := by decide +kernel
theorem d_Notes_seek_33 : decode prog_5_method_5_code 33 = .ok (.getfield 37, 3) := by decide +kernel
theorem d_Notes_seek_36 : decode prog_5_method_5_code 36 = .ok (.iload_n 3, 1) := by decide +kernel
theorem d_Notes_seek_37 : decode prog_5_method_5_code 37 = .ok (.if_icmp .ne 16, 3) := by decide +kernel
theorem d_Notes_seek_40 : decode prog_5_method_5_code 40 = .ok (.aload 6, 2) := by decide +kernel
theorem d_Notes_seek_42 : decode prog_5_method_5_code 42 = .ok (.getfield 40, 3) := by decide +kernel
theorem d_Notes_seek_45 : decode prog_5_method_5_code 45 = .ok (.iload 4, 2) := by decide +kernel
theorem d_Notes_seek_47 : decode prog_5_method_5_code 47 = .ok (.if_icmp .ne 6, 3) := by decide +kernel
theorem d_Notes_seek_50 : decode prog_5_method_5_code 50 = .ok (.aload 6, 2) := by decide +kernel
theorem d_Notes_seek_52 : decode prog_5_method_5_code 52 = .ok (.areturn, 1) := by decide +kernel
theorem d_Notes_seek_53 : decode prog_5_method_5_code 53 = .ok (.iinc 5 1, 3) := by decide +kernel
theorem d_Notes_seek_56 : decode prog_5_method_5_code 56 = .ok (.goto (-53), 3) := by decide +kernel
theorem d_Notes_seek_59 : decode prog_5_method_5_code 59 = .ok (.aconst_null, 1) := by decide +kernel
theorem d_Notes_seek_60 : decode prog_5_method_5_code 60 = .ok (.areturn, 1) := by decide +kernel
theorem d_Notes_add_0 : decode prog_5_method_3_code 0 = .ok (.aload_n 0, 1) := by decide +kernel
theorem d_Notes_add_1 : decode prog_5_method_3_code 1 = .ok (.invokevirtual 21, 3) := by decide +kernel
theorem d_Notes_add_4 : decode prog_5_method_3_code 4 = .ok (.ifCond .eq 4, 3) := by decide +kernel
theorem d_Notes_add_7 : decode prog_5_method_3_code 7 = .ok (.return_, 1) := by decide +kernel
theorem d_Notes_add_8 : decode prog_5_method_3_code 8 = .ok (.aload_n 0, 1) := by decide +kernel
theorem d_Notes_add_9 : decode prog_5_method_3_code 9 = .ok (.getfield 17, 3) := by decide +kernel
theorem d_Notes_add_12 : decode prog_5_method_3_code 12 = .ok (.istore_n 2, 1) := by decide +kernel
theorem d_Notes_add_13 : decode prog_5_method_3_code 13 = .ok (.iload_n 2, 1) := by decide +kernel
theorem d_Notes_add_14 : decode prog_5_method_3_code 14 = .ok (.ifCond .le 38, 3) := by decide +kernel
theorem d_Notes_add_17 : decode prog_5_method_3_code 17 = .ok (.aload_n 0, 1) := by decide +kernel
theorem d_Notes_add_18 : decode prog_5_method_3_code 18 = .ok (.getfield 11, 3) := by decide +kernel
theorem d_Notes_add_21 : decode prog_5_method_3_code 21 = .ok (.iload_n 2, 1) := by decide +kernel
theorem d_Notes_add_22 : decode prog_5_method_3_code 22 = .ok (.iconst 1, 1) := by decide +kernel
theorem d_Notes_add_23 : decode prog_5_method_3_code 23 = .ok (.isub, 1) := by decide +kernel
theorem d_Notes_add_24 : decode prog_5_method_3_code 24 = .ok (.aaload, 1) := by decide +kernel
theorem d_Notes_add_25 : decode prog_5_method_3_code 25 = .ok (.aload_n 1, 1) := by decide +kernel
theorem d_Notes_add_26 : decode prog_5_method_3_code 26 = .ok (.invokevirtual 25, 3) := by decide +kernel
theorem d_Notes_add_29 : decode prog_5_method_3_code 29 = .ok (.ifCond .eq 23, 3) := by decide +kernel
theorem d_Notes_add_32 : decode prog_5_method_3_code 32 = .ok (.aload_n 0, 1) := by decide +kernel
theorem d_Notes_add_33 : decode prog_5_method_3_code 33 = .ok (.getfield 11, 3) := by decide +kernel
theorem d_Notes_add_36 : decode prog_5_method_3_code 36 = .ok (.iload_n 2, 1) := by decide +kernel
theorem d_Notes_add_37 : decode prog_5_method_3_code 37 = .ok (.aload_n 0, 1) := by decide +kernel
theorem d_Notes_add_38 : decode prog_5_method_3_code 38 = .ok (.getfield 11, 3) := by decide +kernel
theorem d_Notes_add_41 : decode prog_5_method_3_code 41 = .ok (.iload_n 2, 1) := by decide +kernel
theorem d_Notes_add_42 : decode prog_5_method_3_code 42 = .ok (.iconst 1, 1) := by decide +kernel
theorem d_Notes_add_43 : decode prog_5_method_3_code 43 = .ok (.isub, 1) := by decide +kernel
theorem d_Notes_add_44 : decode prog_5_method_3_code 44 = .ok (.aaload, 1) := by decide +kernel
theorem d_Notes_add_45 : decode prog_5_method_3_code 45 = .ok (.aastore, 1) := by decide +kernel
theorem d_Notes_add_46 : decode prog_5_method_3_code 46 = .ok (.iinc 2 (-1), 3) := by decide +kernel
theorem d_Notes_add_49 : decode prog_5_method_3_code 49 = .ok (.goto (-36), 3) := by decide +kernel
theorem d_Notes_add_52 : decode prog_5_method_3_code 52 = .ok (.aload_n 0, 1) := by decide +kernel
theorem d_Notes_add_53 : decode prog_5_method_3_code 53 = .ok (.getfield 11, 3) := by decide +kernel
theorem d_Notes_add_56 : decode prog_5_method_3_code 56 = .ok (.iload_n 2, 1) := by decide +kernel
theorem d_Notes_add_57 : decode prog_5_method_3_code 57 = .ok (.aload_n 1, 1) := by decide +kernel
theorem d_Notes_add_58 : decode prog_5_method_3_code 58 = .ok (.aastore, 1) := by decide +kernel
theorem d_Notes_add_59 : decode prog_5_method_3_code 59 = .ok (.aload_n 0, 1) := by decide +kernel
theorem d_Notes_add_60 : decode prog_5_method_3_code 60 = .ok (.dup, 1) := by decide +kernel
theorem d_Notes_add_61 : decode prog_5_method_3_code 61 = .ok (.getfield 17, 3) := by decide +kernel
theorem d_Notes_add_64 : decode prog_5_method_3_code 64 = .ok (.iconst 1, 1) := by decide +kernel
theorem d_Notes_add_65 : decode prog_5_method_3_code 65 = .ok (.iadd, 1) := by decide +kernel
theorem d_Notes_add_66 : decode prog_5_method_3_code 66 = .ok (.putfield 17, 3) := by decide +kernel
theorem d_Notes_add_69 : decode prog_5_method_3_code 69 = .ok (.return_, 1) := by decide +kernel
theorem d_SR_transpose_0 : decode prog_1_method_6_code 0 = .ok (.iload_n 1, 1) := by decide +kernel
theorem d_SR_transpose_1 : decode prog_1_method_6_code 1 = .ok (.invokestatic 99, 3) := by decide +kernel
theorem d_SR_transpose_4 : decode prog_1_method_6_code 4 = .ok (.aload_n 0, 1) := by decide +kernel
theorem d_SR_transpose_5 : decode prog_1_method_6_code 5 = .ok (.getfield 21, 3) := by decide +kernel
theorem d_SR_transpose_8 : decode prog_1_method_6_code 8 = .ok (.iload_n 1, 1) := by decide +kernel
theorem d_SR_transpose_9 : decode prog_1_method_6_code 9 = .ok (.iload_n 2, 1) := by decide +kernel
theorem d_SR_transpose_10 : decode prog_1_method_6_code 10 = .ok (.invokevirtual 132, 3) := by decide +kernel
theorem d_SR_transpose_13 : decode prog_1_method_6_code 13 = .ok (.ifCond .ne 13, 3) := by decide +kernel
theorem d_SR_transpose_16 : decode prog_1_method_6_code 16 = .ok (.new 54, 3) := by decide +kernel
theorem d_SR_transpose_19 : decode prog_1_method_6_code 19 = .ok (.dup, 1) := by decide +kernel
theorem d_SR_transpose_20 : decode prog_1_method_6_code 20 = .ok (.ldc 135, 2) := by decide +kernel
theorem d_SR_transpose_22 : decode prog_1_method_6_code 22 = .ok (.invokespecial 58, 3) := by decide +kernel
theorem d_SR_transpose_25 : decode prog_1_method_6_code 25 = .ok (.athrow, 1) := by decide +kernel
theorem d_SR_transpose_26 : decode prog_1_method_6_code 26 = .ok (.aload_n 0, 1) := by decide +kernel
theorem d_SR_transpose_27 : decode prog_1_method_6_code 27 = .ok (.getfield 21, 3) := by decide +kernel
theorem d_SR_transpose_30 : decode prog_1_method_6_code 30 = .ok (.iload_n 1, 1) := by decide +kernel
theorem d_SR_transpose_31 : decode prog_1_method_6_code 31 = .ok (.iload_n 2, 1) := by decide +kernel
theorem d_SR_transpose_32 : decode prog_1_method_6_code 32 = .ok (.invokevirtual 137, 3) := by decide +kernel
theorem d_SR_transpose_35 : decode prog_1_method_6_code 35 = .ok (.ireturn, 1) := by decide +kernel
theorem d_Notes_canShift_0 : decode prog_5_method_8_code 0 = .ok (.iconst 0, 1) := by decide +kernel
theorem d_Notes_canShift_1 : decode prog_5_method_8_code 1 = .ok (.istore_n 3, 1) := by decide +kernel
theorem d_Notes_canShift_2 : decode prog_5_method_8_code 2 = .ok (.iload_n 3, 1) := by decide +kernel
theorem d_Notes_canShift_3 : decode prog_5_method_8_code 3 = .ok (.aload_n 0, 1) := by decide +kernel
theorem d_Notes_canShift_4 : decode prog_5_method_8_code 4 = .ok (.getfield 17, 3) := by decide +kernel
theorem d_Notes_canShift_7 : decode prog_5_method_8_code 7 = .ok (.if_icmp .ge 55, 3) := by decide +kernel
theorem d_Notes_canShift_10 : decode prog_5_method_8_code 10 = .ok (.aload_n 0, 1) := by decide +kernel
theorem d_Notes_canShift_11 : decode prog_5_method_8_code 11 = .ok (.getfield 11, 3) := by decide +kernel
theorem d_Notes_canShift_14 : decode prog_5_method_8_code 14 = .ok (.iload_n 3, 1) := by decide +kernel
theorem d_Notes_canShift_15 : decode prog_5_method_8_code 15 = .ok (.aaload, 1) := by decide +kernel
theorem d_Notes_canShift_16 : decode prog_5_method_8_code 16 = .ok (.getfield 56, 3) := by decide +kernel
theorem d_Notes_canShift_19 : decode prog_5_method_8_code 19 = .ok (.iload_n 1, 1) := by decide +kernel
theorem d_Notes_canShift_20 : decode prog_5_method_8_code 20 = .ok (.if_icmp .ne 36, 3) := by decide +kernel
theorem d_Notes_canShift_23 : decode prog_5_method_8_code 23 = .ok (.aload_n 0, 1) := by decide +kernel
theorem d_Notes_canShift_24 : decode prog_5_method_8_code 24 = .ok (.getfield 11, 3) := by decide +kernel
theorem d_Notes_canShift_27 : decode prog_5_method_8_code 27 = .ok (.iload_n 3, 1) := by decide +kernel
theorem d_Notes_canShift_28 : decode prog_5_method_8_code 28 = .ok (.aaload, 1) := by decide +kernel
theorem d_Notes_canShift_29 : decode prog_5_method_8_code 29 = .ok (.getfield 40, 3) := by decide +kernel
theorem d_Notes_canShift_32 : decode prog_5_method_8_code 32 = .ok (.i2l, 1) := by decide +kernel
theorem d_Notes_canShift_33 : decode prog_5_method_8_code 33 = .ok (.iload_n 2, 1) := by decide +kernel
theorem d_Notes_canShift_34 : decode prog_5_method_8_code 34 = .ok (.i2l, 1) := by decide +kernel
theorem d_Notes_canShift_35 : decode prog_5_method_8_code 35 = .ok (.ladd, 1) := by decide +kernel
theorem d_Notes_canShift_36 : decode prog_5_method_8_code 36 = .ok (.lstore 4, 2) := by decide +kernel
theorem d_Notes_canShift_38 : decode prog_5_method_8_code 38 = .ok (.lload 4, 2) := by decide +kernel
theorem d_Notes_canShift_40 : decode prog_5_method_8_code 40 = .ok (.lconst 0, 1) := by decide +kernel
theorem d_Notes_canShift_41 : decode prog_5_method_8_code 41 = .ok (.lcmp, 1) := by decide +kernel
theorem d_Notes_canShift_42 : decode prog_5_method_8_code 42 = .ok (.ifCond .lt 12, 3) := by decide +kernel
theorem d_Notes_canShift_45 : decode prog_5_method_8_code 45 = .ok (.lload 4, 2) := by decide +kernel
theorem d_Notes_canShift_47 : decode prog_5_method_8_code 47 = .ok (.ldc2_w 59, 3) := by decide +kernel
theorem d_Notes_canShift_50 : decode prog_5_method_8_code 50 = .ok (.lcmp, 1) := by decide +kernel
theorem d_Notes_canShift_51 : decode prog_5_method_8_code 51 = .ok (.ifCond .le 5, 3) := by decide +kernel
theorem d_Notes_canShift_54 : decode prog_5_method_8_code 54 = .ok (.iconst 0, 1) := by decide +kernel
theorem d_Notes_canShift_55 : decode prog_5_method_8_code 55 = .ok (.ireturn, 1) := by decide +kernel
theorem d_Notes_canShift_56 : decode prog_5_method_8_code 56 = .ok (.iinc 3 1, 3) := by decide +kernel
theorem d_Notes_canShift_59 : decode prog_5_method_8_code 59 = .ok (.goto (-57), 3) := by decide +kernel
theorem d_Notes_canShift_62 : decode prog_5_method_8_code 62 = .ok (.iconst 1, 1) := by decide +kernel
theorem d_Notes_canShift_63 : decode prog_5_method_8_code 63 = .ok (.ireturn, 1) := by decide +kernel
theorem d_Notes_shift_0 : decode prog_5_method_9_code 0 = .ok (.iconst 0, 1) := by decide +kernel
theorem d_Notes_shift_1 : decode prog_5_method_9_code 1 = .ok (.istore_n 3, 1) := by decide +kernel
theorem d_Notes_shift_2 : decode prog_5_method_9_code 2 = .ok (.iconst 0, 1) := by decide +kernel
theorem d_Notes_shift_3 : decode prog_5_method_9_code 3 = .ok (.istore 4, 2) := by decide +kernel
theorem d_Notes_shift_5 : decode prog_5_method_9_code 5 = .ok (.iload 4, 2) := by decide +kernel
theorem d_Notes_shift_7 : decode prog_5_method_9_code 7 = .ok (.aload_n 0, 1) := by decide +kernel
theorem d_Notes_shift_8 : decode prog_5_method_9_code 8 = .ok (.getfield 17, 3) := by decide +kernel
theorem d_Notes_shift_11 : decode prog_5_method_9_code 11 = .ok (.if_icmp .ge 42, 3) := by decide +kernel
theorem d_Notes_shift_14 : decode prog_5_method_9_code 14 = .ok (.aload_n 0, 1) := by decide +kernel
theorem d_Notes_shift_15 : decode prog_5_method_9_code 15 = .ok (.getfield 11, 3) := by decide +kernel
theorem d_Notes_shift_18 : decode prog_5_method_9_code 18 = .ok (.iload 4, 2) := by decide +kernel
theorem d_Notes_shift_20 : decode prog_5_method_9_code 20 = .ok (.aaload, 1) := by decide +kernel
theorem d_Notes_shift_21 : decode prog_5_method_9_code 21 = .ok (.getfield 56, 3) := by decide +kernel
theorem d_Notes_shift_24 : decode prog_5_method_9_code 24 = .ok (.iload_n 1, 1) := by decide +kernel
theorem d_Notes_shift_25 : decode prog_5_method_9_code 25 = .ok (.if_icmp .ne 22, 3) := by decide +kernel
theorem d_Notes_shift_28 : decode prog_5_method_9_code 28 = .ok (.aload_n 0, 1) := by decide +kernel
theorem d_Notes_shift_29 : decode prog_5_method_9_code 29 = .ok (.getfield 11, 3) := by decide +kernel
theorem d_Notes_shift_32 : decode prog_5_method_9_code 32 = .ok (.iload 4, 2) := by decide +kernel
theorem d_Notes_shift_34 : decode prog_5_method_9_code 34 = .ok (.aaload, 1) := by decide +kernel
theorem d_Notes_shift_35 : decode prog_5_method_9_code 35 = .ok (.dup, 1) := by decide +kernel
theorem d_Notes_shift_36 : decode prog_5_method_9_code 36 = .ok (.getfield 40, 3) := by decide +kernel
theorem d_Notes_shift_39 : decode prog_5_method_9_code 39 = .ok (.iload_n 2, 1) := by decide +kernel
theorem d_Notes_shift_40 : decode prog_5_method_9_code 40 = .ok (.iadd, 1) := by decide +kernel
theorem d_Notes_shift_41 : decode prog_5_method_9_code 41 = .ok (.putfield 40, 3) := by decide +kernel
theorem d_Notes_shift_44 : decode prog_5_method_9_code 44 = .ok (.iinc 3 1, 3) := by decide +kernel
theorem d_Notes_shift_47 : decode prog_5_method_9_code 47 = .ok (.iinc 4 1, 3) := by decide +kernel
theorem d_Notes_shift_50 : decode prog_5_method_9_code 50 = .ok (.goto (-45), 3) := by decide +kernel
theorem d_Notes_shift_53 : decode prog_5_method_9_code 53 = .ok (.iload_n 3, 1) := by decide +kernel
theorem d_Notes_shift_54 : decode prog_5_method_9_code 54 = .ok (.ireturn, 1) := by decide +kernel
theorem d_SR_played_0 : decode prog_1_method_9_code 0 = .ok (.aload_n 0, 1) := by decide +kernel
theorem d_SR_played_1 : decode prog_1_method_9_code 1 = .ok (.invokevirtual 147, 3) := by decide +kernel
theorem d_SR_played_4 : decode prog_1_method_9_code 4 = .ok (.iload_n 1, 1) := by decide +kernel
theorem d_SR_played_5 : decode prog_1_method_9_code 5 = .ok (.aload_n 0, 1) := by decide +kernel
theorem d_SR_played_6 : decode prog_1_method_9_code 6 = .ok (.getfield 35, 3) := by decide +kernel
theorem d_SR_played_9 : decode prog_1_method_9_code 9 = .ok (.getfield 146, 3) := by decide +kernel
theorem d_SR_played_12 : decode prog_1_method_9_code 12 = .ok (.iconst 1, 1) := by decide +kernel
theorem d_SR_played_13 : decode prog_1_method_9_code 13 = .ok (.isub, 1) := by decide +kernel
theorem d_SR_played_14 : decode prog_1_method_9_code 14 = .ok (.invokestatic 150, 3) := by decide +kernel
theorem d_SR_played_17 : decode prog_1_method_9_code 17 = .ok (.aload_n 0, 1) := by decide +kernel
theorem d_SR_played_18 : decode prog_1_method_9_code 18 = .ok (.getfield 35, 3) := by decide +kernel
theorem d_SR_played_21 : decode prog_1_method_9_code 21 = .ok (.iload_n 1, 1) := by decide +kernel
theorem d_SR_played_22 : decode prog_1_method_9_code 22 = .ok (.invokevirtual 154, 3) := by decide +kernel
theorem d_SR_played_25 : decode prog_1_method_9_code 25 = .ok (.ireturn, 1) := by decide +kernel
theorem d_SR_needRoad_0 : decode prog_1_method_20_code 0 = .ok (.aload_n 0, 1) := by decide +kernel
theorem d_SR_needRoad_1 : decode prog_1_method_20_code 1 = .ok (.invokevirtual 140, 3) := by decide +kernel
theorem d_SR_needRoad_4 : decode prog_1_method_20_code 4 = .ok (.aload_n 0, 1) := by decide +kernel
theorem d_SR_needRoad_5 : decode prog_1_method_20_code 5 = .ok (.getfield 143, 3) := by decide +kernel
theorem d_SR_needRoad_8 : decode prog_1_method_20_code 8 = .ok (.ifCond .eq 13, 3) := by decide +kernel
theorem d_SR_needRoad_11 : decode prog_1_method_20_code 11 = .ok (.new 65, 3) := by decide +kernel
theorem d_SR_needRoad_14 : decode prog_1_method_20_code 14 = .ok (.dup, 1) := by decide +kernel
theorem d_SR_needRoad_15 : decode prog_1_method_20_code 15 = .ok (.ldc 217, 2) := by decide +kernel
theorem d_SR_needRoad_17 : decode prog_1_method_20_code 17 = .ok (.invokespecial 69, 3) := by decide +kernel
theorem d_SR_needRoad_20 : decode prog_1_method_20_code 20 = .ok (.athrow, 1) := by decide +kernel
theorem d_SR_needRoad_21 : decode prog_1_method_20_code 21 = .ok (.return_, 1) := by decide +kernel
theorem d_SR_needPlayed_0 : decode prog_1_method_22_code 0 = .ok (.iload_n 0, 1) := by decide +kernel
theorem d_SR_needPlayed_1 : decode prog_1_method_22_code 1 = .ok (.iconst 0, 1) := by decide +kernel
theorem d_SR_needPlayed_2 : decode prog_1_method_22_code 2 = .ok (.iload_n 1, 1) := by decide +kernel
theorem d_SR_needPlayed_3 : decode prog_1_method_22_code 3 = .ok (.invokestatic 50, 3) := by decide +kernel
theorem d_SR_needPlayed_6 : decode prog_1_method_22_code 6 = .ok (.ifCond .ne 13, 3) := by decide +kernel
theorem d_SR_needPlayed_9 : decode prog_1_method_22_code 9 = .ok (.new 221, 3) := by decide +kernel
theorem d_SR_needPlayed_12 : decode prog_1_method_22_code 12 = .ok (.dup, 1) := by decide +kernel
theorem d_SR_needPlayed_13 : decode prog_1_method_22_code 13 = .ok (.ldc 223, 2) := by decide +kernel
theorem d_SR_needPlayed_15 : decode prog_1_method_22_code 15 = .ok (.invokespecial 225, 3) := by decide +kernel
theorem d_SR_needPlayed_18 : decode prog_1_method_22_code 18 = .ok (.athrow, 1) := by decide +kernel
theorem d_SR_needPlayed_19 : decode prog_1_method_22_code 19 = .ok (.return_, 1) := by decide +kernel
theorem d_Road_barOf_0 : decode prog_9_method_8_code 0 = .ok (.iload_n 1, 1) := by decide +kernel
theorem d_Road_barOf_1 : decode prog_9_method_8_code 1 = .ok (.iconst 0, 1) := by decide +kernel
theorem d_Road_barOf_2 : decode prog_9_method_8_code 2 = .ok (.aload_n 0, 1) := by decide +kernel
theorem d_Road_barOf_3 : decode prog_9_method_8_code 3 = .ok (.getfield 15, 3) := by decide +kernel
theorem d_Road_barOf_6 : decode prog_9_method_8_code 6 = .ok (.iconst 1, 1) := by decide +kernel
theorem d_Road_barOf_7 : decode prog_9_method_8_code 7 = .ok (.isub, 1) := by decide +kernel
theorem d_Road_barOf_8 : decode prog_9_method_8_code 8 = .ok (.invokestatic 116, 3) := by decide +kernel
theorem d_Road_barOf_11 : decode prog_9_method_8_code 11 = .ok (.ifCond .eq 12, 3) := by decide +kernel
theorem d_Road_barOf_14 : decode prog_9_method_8_code 14 = .ok (.aload_n 0, 1) := by decide +kernel
theorem d_Road_barOf_15 : decode prog_9_method_8_code 15 = .ok (.getfield 9, 3) := by decide +kernel
theorem d_Road_barOf_18 : decode prog_9_method_8_code 18 = .ok (.iload_n 1, 1) := by decide +kernel
theorem d_Road_barOf_19 : decode prog_9_method_8_code 19 = .ok (.iaload, 1) := by decide +kernel
theorem d_Road_barOf_20 : decode prog_9_method_8_code 20 = .ok (.goto 4, 3) := by decide +kernel
theorem d_Road_barOf_23 : decode prog_9_method_8_code 23 = .ok (.iconst (-1), 1) := by decide +kernel
theorem d_Road_barOf_24 : decode prog_9_method_8_code 24 = .ok (.ireturn, 1) := by decide +kernel
theorem d_SR_time_0 : decode prog_1_method_10_code 0 = .ok (.aload_n 0, 1) := by decide +kernel
theorem d_SR_time_1 : decode prog_1_method_10_code 1 = .ok (.invokevirtual 147, 3) := by decide +kernel
theorem d_SR_time_4 : decode prog_1_method_10_code 4 = .ok (.iload_n 1, 1) := by decide +kernel
theorem d_SR_time_5 : decode prog_1_method_10_code 5 = .ok (.aload_n 0, 1) := by decide +kernel
theorem d_SR_time_6 : decode prog_1_method_10_code 6 = .ok (.getfield 35, 3) := by decide +kernel
theorem d_SR_time_9 : decode prog_1_method_10_code 9 = .ok (.getfield 146, 3) := by decide +kernel
theorem d_SR_time_12 : decode prog_1_method_10_code 12 = .ok (.iconst 1, 1) := by decide +kernel
theorem d_SR_time_13 : decode prog_1_method_10_code 13 = .ok (.isub, 1) := by decide +kernel
theorem d_SR_time_14 : decode prog_1_method_10_code 14 = .ok (.invokestatic 150, 3) := by decide +kernel
theorem d_SR_time_17 : decode prog_1_method_10_code 17 = .ok (.aload_n 0, 1) := by decide +kernel
theorem d_SR_time_18 : decode prog_1_method_10_code 18 = .ok (.getfield 35, 3) := by decide +kernel
theorem d_SR_time_21 : decode prog_1_method_10_code 21 = .ok (.iload_n 1, 1) := by decide +kernel
theorem d_SR_time_22 : decode prog_1_method_10_code 22 = .ok (.invokevirtual 157, 3) := by decide +kernel
theorem d_SR_time_25 : decode prog_1_method_10_code 25 = .ok (.ireturn, 1) := by decide +kernel
theorem d_Road_timesUpTo_0 : decode prog_9_method_9_code 0 = .ok (.iconst 0, 1) := by decide +kernel
theorem d_Road_timesUpTo_1 : decode prog_9_method_9_code 1 = .ok (.istore_n 2, 1) := by decide +kernel
theorem d_Road_timesUpTo_2 : decode prog_9_method_9_code 2 = .ok (.iconst 0, 1) := by decide +kernel
theorem d_Road_timesUpTo_3 : decode prog_9_method_9_code 3 = .ok (.istore_n 3, 1) := by decide +kernel
theorem d_Road_timesUpTo_4 : decode prog_9_method_9_code 4 = .ok (.iload_n 3, 1) := by decide +kernel
theorem d_Road_timesUpTo_5 : decode prog_9_method_9_code 5 = .ok (.iload_n 1, 1) := by decide +kernel
theorem d_Road_timesUpTo_6 : decode prog_9_method_9_code 6 = .ok (.if_icmp .gt 34, 3) := by decide +kernel
theorem d_Road_timesUpTo_9 : decode prog_9_method_9_code 9 = .ok (.iload_n 3, 1) := by decide +kernel
theorem d_Road_timesUpTo_10 : decode prog_9_method_9_code 10 = .ok (.aload_n 0, 1) := by decide +kernel
theorem d_Road_timesUpTo_11 : decode prog_9_method_9_code 11 = .ok (.getfield 15, 3) := by decide +kernel
theorem d_Road_timesUpTo_14 : decode prog_9_method_9_code 14 = .ok (.if_icmp .ge 26, 3) := by decide +kernel
theorem d_Road_timesUpTo_17 : decode prog_9_method_9_code 17 = .ok (.aload_n 0, 1) := by decide +kernel
theorem d_Road_timesUpTo_18 : decode prog_9_method_9_code 18 = .ok (.getfield 9, 3) := by decide +kernel
theorem d_Road_timesUpTo_21 : decode prog_9_method_9_code 21 = .ok (.iload_n 3, 1) := by decide +kernel
theorem d_Road_timesUpTo_22 : decode prog_9_method_9_code 22 = .ok (.iaload, 1) := by decide +kernel
theorem d_Road_timesUpTo_23 : decode prog_9_method_9_code 23 = .ok (.aload_n 0, 1) := by decide +kernel
theorem d_Road_timesUpTo_24 : decode prog_9_method_9_code 24 = .ok (.iload_n 1, 1) := by decide +kernel
theorem d_Road_timesUpTo_25 : decode prog_9_method_9_code 25 = .ok (.invokevirtual 120, 3) := by decide +kernel
theorem d_Road_timesUpTo_28 : decode prog_9_method_9_code 28 = .ok (.if_icmp .ne 6, 3) := by decide +kernel
theorem d_Road_timesUpTo_31 : decode prog_9_method_9_code 31 = .ok (.iinc 2 1, 3) := by decide +kernel
theorem d_Road_timesUpTo_34 : decode prog_9_method_9_code 34 = .ok (.iinc 3 1, 3) := by decide +kernel
theorem d_Road_timesUpTo_37 : decode prog_9_method_9_code 37 = .ok (.goto (-33), 3) := by decide +kernel
theorem d_Road_timesUpTo_40 : decode prog_9_method_9_code 40 = .ok (.iload_n 2, 1) := by decide +kernel
theorem d_Road_timesUpTo_41 : decode prog_9_method_9_code 41 = .ok (.ireturn, 1) := by decide +kernel
theorem d_SR_find_0 : decode prog_1_method_11_code 0 = .ok (.aload_n 0, 1) := by decide +kernel
theorem d_SR_find_1 : decode prog_1_method_11_code 1 = .ok (.invokevirtual 147, 3) := by decide +kernel
theorem d_SR_find_4 : decode prog_1_method_11_code 4 = .ok (.aload_n 0, 1) := by decide +kernel
theorem d_SR_find_5 : decode prog_1_method_11_code 5 = .ok (.getfield 35, 3) := by decide +kernel
theorem d_SR_find_8 : decode prog_1_method_11_code 8 = .ok (.iload_n 1, 1) := by decide +kernel
theorem d_SR_find_9 : decode prog_1_method_11_code 9 = .ok (.iload_n 2, 1) := by decide +kernel
theorem d_SR_find_10 : decode prog_1_method_11_code 10 = .ok (.invokevirtual 160, 3) := by decide +kernel
theorem d_SR_find_13 : decode prog_1_method_11_code 13 = .ok (.ireturn, 1) := by decide +kernel
theorem d_Road_indexOf_0 : decode prog_9_method_10_code 0 = .ok (.iconst 0, 1) := by decide +kernel
theorem d_Road_indexOf_1 : decode prog_9_method_10_code 1 = .ok (.istore_n 3, 1) := by decide +kernel
theorem d_Road_indexOf_2 : decode prog_9_method_10_code 2 = .ok (.iconst 0, 1) := by decide +kernel
theorem d_Road_indexOf_3 : decode prog_9_method_10_code 3 = .ok (.istore 4, 2) := by decide +kernel
theorem d_Road_indexOf_5 : decode prog_9_method_10_code 5 = .ok (.iload 4, 2) := by decide +kernel
theorem d_Road_indexOf_7 : decode prog_9_method_10_code 7 = .ok (.aload_n 0, 1) := by decide +kernel
theorem d_Road_indexOf_8 : decode prog_9_method_10_code 8 = .ok (.getfield 15, 3) := by decide +kernel
theorem d_Road_indexOf_11 : decode prog_9_method_10_code 11 = .ok (.if_icmp .ge 31, 3) := by decide +kernel
theorem d_Road_indexOf_14 : decode prog_9_method_10_code 14 = .ok (.aload_n 0, 1) := by decide +kernel
theorem d_Road_indexOf_15 : decode prog_9_method_10_code 15 = .ok (.getfield 9, 3) := by decide +kernel
theorem d_Road_indexOf_18 : decode prog_9_method_10_code 18 = .ok (.iload 4, 2) := by decide +kernel
theorem d_Road_indexOf_20 : decode prog_9_method_10_code 20 = .ok (.iaload, 1) := by decide +kernel
theorem d_Road_indexOf_21 : decode prog_9_method_10_code 21 = .ok (.iload_n 1, 1) := by decide +kernel
theorem d_Road_indexOf_22 : decode prog_9_method_10_code 22 = .ok (.if_icmp .ne 14, 3) := by decide +kernel
theorem d_Road_indexOf_25 : decode prog_9_method_10_code 25 = .ok (.iinc 3 1, 3) := by decide +kernel
theorem d_Road_indexOf_28 : decode prog_9_method_10_code 28 = .ok (.iload_n 3, 1) := by decide +kernel
theorem d_Road_indexOf_29 : decode prog_9_method_10_code 29 = .ok (.iload_n 2, 1) := by decide +kernel
theorem d_Road_indexOf_30 : decode prog_9_method_10_code 30 = .ok (.if_icmp .ne 6, 3) := by decide +kernel
theorem d_Road_indexOf_33 : decode prog_9_method_10_code 33 = .ok (.iload 4, 2) := by decide +kernel
theorem d_Road_indexOf_35 : decode prog_9_method_10_code 35 = .ok (.ireturn, 1) := by decide +kernel
theorem d_Road_indexOf_36 : decode prog_9_method_10_code 36 = .ok (.iinc 4 1, 3) := by decide +kernel
theorem d_Road_indexOf_39 : decode prog_9_method_10_code 39 = .ok (.goto (-34), 3) := by decide +kernel
theorem d_Road_indexOf_42 : decode prog_9_method_10_code 42 = .ok (.iconst (-1), 1) := by decide +kernel
theorem d_Road_indexOf_43 : decode prog_9_method_10_code 43 = .ok (.ireturn, 1) := by decide +kernel
theorem d_SR_tick_0 : decode prog_1_method_12_code 0 = .ok (.aload_n 0, 1) := by decide +kernel
theorem d_SR_tick_1 : decode prog_1_method_12_code 1 = .ok (.invokevirtual 147, 3) := by decide +kernel
theorem d_SR_tick_4 : decode prog_1_method_12_code 4 = .ok (.iload_n 1, 1) := by decide +kernel
theorem d_SR_tick_5 : decode prog_1_method_12_code 5 = .ok (.aload_n 0, 1) := by decide +kernel
theorem d_SR_tick_6 : decode prog_1_method_12_code 6 = .ok (.getfield 35, 3) := by decide +kernel
theorem d_SR_tick_9 : decode prog_1_method_12_code 9 = .ok (.getfield 146, 3) := by decide +kernel
theorem d_SR_tick_12 : decode prog_1_method_12_code 12 = .ok (.invokestatic 150, 3) := by decide +kernel
theorem d_SR_tick_15 : decode prog_1_method_12_code 15 = .ok (.aload_n 0, 1) := by decide +kernel
theorem d_SR_tick_16 : decode prog_1_method_12_code 16 = .ok (.getfield 35, 3) := by decide +kernel
theorem d_SR_tick_19 : decode prog_1_method_12_code 19 = .ok (.aload_n 0, 1) := by decide +kernel
theorem d_SR_tick_20 : decode prog_1_method_12_code 20 = .ok (.getfield 14, 3) := by decide +kernel
theorem d_SR_tick_23 : decode prog_1_method_12_code 23 = .ok (.iload_n 1, 1) := by decide +kernel
theorem d_SR_tick_24 : decode prog_1_method_12_code 24 = .ok (.invokevirtual 163, 3) := by decide +kernel
theorem d_SR_tick_27 : decode prog_1_method_12_code 27 = .ok (.lreturn, 1) := by decide +kernel
theorem d_Road_ticksTo_0 : decode prog_9_method_11_code 0 = .ok (.lconst 0, 1) := by decide +kernel
theorem d_Road_ticksTo_1 : decode prog_9_method_11_code 1 = .ok (.lstore_n 3, 1) := by decide +kernel
theorem d_Road_ticksTo_2 : decode prog_9_method_11_code 2 = .ok (.iconst 0, 1) := by decide +kernel
theorem d_Road_ticksTo_3 : decode prog_9_method_11_code 3 = .ok (.istore 5, 2) := by decide +kernel
theorem d_Road_ticksTo_5 : decode prog_9_method_11_code 5 = .ok (.iload 5, 2) := by decide +kernel
theorem d_Road_ticksTo_7 : decode prog_9_method_11_code 7 = .ok (.iload_n 2, 1) := by decide +kernel
theorem d_Road_ticksTo_8 : decode prog_9_method_11_code 8 = .ok (.if_icmp .ge 32, 3) := by decide +kernel
theorem d_Road_ticksTo_11 : decode prog_9_method_11_code 11 = .ok (.iload 5, 2) := by decide +kernel
theorem d_Road_ticksTo_13 : decode prog_9_method_11_code 13 = .ok (.aload_n 0, 1) := by decide +kernel
theorem d_Road_ticksTo_14 : decode prog_9_method_11_code 14 = .ok (.getfield 15, 3) := by decide +kernel
theorem d_Road_ticksTo_17 : decode prog_9_method_11_code 17 = .ok (.if_icmp .ge 23, 3) := by decide +kernel
theorem d_Road_ticksTo_20 : decode prog_9_method_11_code 20 = .ok (.lload_n 3, 1) := by decide +kernel
theorem d_Road_ticksTo_21 : decode prog_9_method_11_code 21 = .ok (.aload_n 1, 1) := by decide +kernel
theorem d_Road_ticksTo_22 : decode prog_9_method_11_code 22 = .ok (.aload_n 0, 1) := by decide +kernel
theorem d_Road_ticksTo_23 : decode prog_9_method_11_code 23 = .ok (.getfield 9, 3) := by decide +kernel
theorem d_Road_ticksTo_26 : decode prog_9_method_11_code 26 = .ok (.iload 5, 2) := by decide +kernel
theorem d_Road_ticksTo_28 : decode prog_9_method_11_code 28 = .ok (.iaload, 1) := by decide +kernel
theorem d_Road_ticksTo_29 : decode prog_9_method_11_code 29 = .ok (.invokestatic 123, 3) := by decide +kernel
theorem d_Road_ticksTo_32 : decode prog_9_method_11_code 32 = .ok (.ladd, 1) := by decide +kernel
theorem d_Road_ticksTo_33 : decode prog_9_method_11_code 33 = .ok (.lstore_n 3, 1) := by decide +kernel
theorem d_Road_ticksTo_34 : decode prog_9_method_11_code 34 = .ok (.iinc 5 1, 3) := by decide +kernel
theorem d_Road_ticksTo_37 : decode prog_9_method_11_code 37 = .ok (.goto (-32), 3) := by decide +kernel
theorem d_Road_ticksTo_40 : decode prog_9_method_11_code 40 = .ok (.lload_n 3, 1) := by decide +kernel
theorem d_Road_ticksTo_41 : decode prog_9_method_11_code 41 = .ok (.lreturn, 1) := by decide +kernel
theorem d_Road_ticksOf_0 : decode prog_9_method_13_code 0 = .ok (.aload_n 0, 1) := by decide +kernel
theorem d_Road_ticksOf_1 : decode prog_9_method_13_code 1 = .ok (.iload_n 1, 1) := by decide +kernel
theorem d_Road_ticksOf_2 : decode prog_9_method_13_code 2 = .ok (.invokevirtual 127, 3) := by decide +kernel
theorem d_Road_ticksOf_5 : decode prog_9_method_13_code 5 = .ok (.i2l, 1) := by decide +kernel
theorem d_Road_ticksOf_6 : decode prog_9_method_13_code 6 = .ok (.aload_n 0, 1) := by decide +kernel
theorem d_Road_ticksOf_7 : decode prog_9_method_13_code 7 = .ok (.iload_n 1, 1) := by decide +kernel
theorem d_Road_ticksOf_8 : decode prog_9_method_13_code 8 = .ok (.invokevirtual 130, 3) := by decide +kernel
theorem d_Road_ticksOf_11 : decode prog_9_method_13_code 11 = .ok (.i2l, 1) := by decide +kernel
theorem d_Road_ticksOf_12 : decode prog_9_method_13_code 12 = .ok (.lmul, 1) := by decide +kernel
theorem d_Road_ticksOf_13 : decode prog_9_method_13_code 13 = .ok (.lreturn, 1) := by decide +kernel
theorem d_SR_at_0 : decode prog_1_method_13_code 0 = .ok (.aload_n 0, 1) := by decide +kernel
theorem d_SR_at_1 : decode prog_1_method_13_code 1 = .ok (.invokevirtual 147, 3) := by decide +kernel
theorem d_SR_at_4 : decode prog_1_method_13_code 4 = .ok (.aload_n 0, 1) := by decide +kernel
theorem d_SR_at_5 : decode prog_1_method_13_code 5 = .ok (.getfield 35, 3) := by decide +kernel
theorem d_SR_at_8 : decode prog_1_method_13_code 8 = .ok (.aload_n 0, 1) := by decide +kernel
theorem d_SR_at_9 : decode prog_1_method_13_code 9 = .ok (.getfield 14, 3) := by decide +kernel
theorem d_SR_at_12 : decode prog_1_method_13_code 12 = .ok (.lload_n 1, 1) := by decide +kernel
theorem d_SR_at_13 : decode prog_1_method_13_code 13 = .ok (.invokevirtual 167, 3) := by decide +kernel
theorem d_SR_at_16 : decode prog_1_method_13_code 16 = .ok (.ireturn, 1) := by decide +kernel
theorem d_Road_indexAt_0 : decode prog_9_method_12_code 0 = .ok (.lload_n 2, 1) := by decide +kernel
theorem d_Road_indexAt_1 : decode prog_9_method_12_code 1 = .ok (.lconst 0, 1) := by decide +kernel
theorem d_Road_indexAt_2 : decode prog_9_method_12_code 2 = .ok (.lcmp, 1) := by decide +kernel
theorem d_Road_indexAt_3 : decode prog_9_method_12_code 3 = .ok (.ifCond .ge 5, 3) := by decide +kernel
theorem d_Road_indexAt_6 : decode prog_9_method_12_code 6 = .ok (.iconst (-1), 1) := by decide +kernel
theorem d_Road_indexAt_7 : decode prog_9_method_12_code 7 = .ok (.ireturn, 1) := by decide +kernel
theorem d_Road_indexAt_8 : decode prog_9_method_12_code 8 = .ok (.lconst 0, 1) := by decide +kernel
theorem d_Road_indexAt_9 : decode prog_9_method_12_code 9 = .ok (.lstore 4, 2) := by decide +kernel
theorem d_Road_indexAt_11 : decode prog_9_method_12_code 11 = .ok (.iconst 0, 1) := by decide +kernel
theorem d_Road_indexAt_12 : decode prog_9_method_12_code 12 = .ok (.istore 6, 2) := by decide +kernel
theorem d_Road_indexAt_14 : decode prog_9_method_12_code 14 = .ok (.iload 6, 2) := by decide +kernel
theorem d_Road_indexAt_16 : decode prog_9_method_12_code 16 = .ok (.aload_n 0, 1) := by decide +kernel
theorem d_Road_indexAt_17 : decode prog_9_method_12_code 17 = .ok (.getfield 15, 3) := by decide +kernel
theorem d_Road_indexAt_20 : decode prog_9_method_12_code 20 = .ok (.if_icmp .ge 35, 3) := by decide +kernel
theorem d_Road_indexAt_23 : decode prog_9_method_12_code 23 = .ok (.lload 4, 2) := by decide +kernel
theorem d_Road_indexAt_25 : decode prog_9_method_12_code 25 = .ok (.aload_n 1, 1) := by decide +kernel
theorem d_Road_indexAt_26 : decode prog_9_method_12_code 26 = .ok (.aload_n 0, 1) := by decide +kernel
theorem d_Road_indexAt_27 : decode prog_9_method_12_code 27 = .ok (.getfield 9, 3) := by decide +kernel
theorem d_Road_indexAt_30 : decode prog_9_method_12_code 30 = .ok (.iload 6, 2) := by decide +kernel
theorem d_Road_indexAt_32 : decode prog_9_method_12_code 32 = .ok (.iaload, 1) := by decide +kernel
theorem d_Road_indexAt_33 : decode prog_9_method_12_code 33 = .ok (.invokestatic 123, 3) := by decide +kernel
theorem d_Road_indexAt_36 : decode prog_9_method_12_code 36 = .ok (.ladd, 1) := by decide +kernel
theorem d_Road_indexAt_37 : decode prog_9_method_12_code 37 = .ok (.lstore 4, 2) := by decide +kernel
theorem d_Road_indexAt_39 : decode prog_9_method_12_code 39 = .ok (.lload_n 2, 1) := by decide +kernel
theorem d_Road_indexAt_40 : decode prog_9_method_12_code 40 = .ok (.lload 4, 2) := by decide +kernel
theorem d_Road_indexAt_42 : decode prog_9_method_12_code 42 = .ok (.lcmp, 1) := by decide +kernel
theorem d_Road_indexAt_43 : decode prog_9_method_12_code 43 = .ok (.ifCond .ge 6, 3) := by decide +kernel
theorem d_Road_indexAt_46 : decode prog_9_method_12_code 46 = .ok (.iload 6, 2) := by decide +kernel
theorem d_Road_indexAt_48 : decode prog_9_method_12_code 48 = .ok (.ireturn, 1) := by decide +kernel
theorem d_Road_indexAt_49 : decode prog_9_method_12_code 49 = .ok (.iinc 6 1, 3) := by decide +kernel
theorem d_Road_indexAt_52 : decode prog_9_method_12_code 52 = .ok (.goto (-38), 3) := by decide +kernel
theorem d_Road_indexAt_55 : decode prog_9_method_12_code 55 = .ok (.iconst (-1), 1) := by decide +kernel
theorem d_Road_indexAt_56 : decode prog_9_method_12_code 56 = .ok (.ireturn, 1) := by decide +kernel
theorem d_SR_sounds_0 : decode prog_1_method_14_code 0 = .ok (.iload_n 1, 1) := by decide +kernel
theorem d_SR_sounds_1 : decode prog_1_method_14_code 1 = .ok (.invokestatic 99, 3) := by decide +kernel
theorem d_SR_sounds_4 : decode prog_1_method_14_code 4 = .ok (.aload_n 0, 1) := by decide +kernel
theorem d_SR_sounds_5 : decode prog_1_method_14_code 5 = .ok (.invokevirtual 147, 3) := by decide +kernel
theorem d_SR_sounds_8 : decode prog_1_method_14_code 8 = .ok (.aload_n 0, 1) := by decide +kernel
theorem d_SR_sounds_9 : decode prog_1_method_14_code 9 = .ok (.getfield 42, 3) := by decide +kernel
theorem d_SR_sounds_12 : decode prog_1_method_14_code 12 = .ok (.iload_n 1, 1) := by decide +kernel
theorem d_SR_sounds_13 : decode prog_1_method_14_code 13 = .ok (.aload_n 0, 1) := by decide +kernel
theorem d_SR_sounds_14 : decode prog_1_method_14_code 14 = .ok (.getfield 14, 3) := by decide +kernel
theorem d_SR_sounds_17 : decode prog_1_method_14_code 17 = .ok (.aload_n 0, 1) := by decide +kernel
theorem d_SR_sounds_18 : decode prog_1_method_14_code 18 = .ok (.getfield 21, 3) := by decide +kernel
theorem d_SR_sounds_21 : decode prog_1_method_14_code 21 = .ok (.aload_n 0, 1) := by decide +kernel
theorem d_SR_sounds_22 : decode prog_1_method_14_code 22 = .ok (.getfield 35, 3) := by decide +kernel
theorem d_SR_sounds_25 : decode prog_1_method_14_code 25 = .ok (.invokevirtual 171, 3) := by decide +kernel
theorem d_SR_sounds_28 : decode prog_1_method_14_code 28 = .ok (.aload_n 0, 1) := by decide +kernel
theorem d_SR_sounds_29 : decode prog_1_method_14_code 29 = .ok (.getfield 42, 3) := by decide +kernel
theorem d_SR_sounds_32 : decode prog_1_method_14_code 32 = .ok (.getfield 175, 3) := by decide +kernel
theorem d_SR_sounds_35 : decode prog_1_method_14_code 35 = .ok (.ireturn, 1) := by decide +kernel
theorem d_Sounding_know_0 : decode prog_10_method_3_code 0 = .ok (.aload_n 0, 1) := by decide +kernel
theorem d_Sounding_know_1 : decode prog_10_method_3_code 1 = .ok (.getfield 21, 3) := by decide +kernel
theorem d_Sounding_know_4 : decode prog_10_method_3_code 4 = .ok (.iload_n 1, 1) := by decide +kernel
theorem d_Sounding_know_5 : decode prog_10_method_3_code 5 = .ok (.if_icmp .ne 4, 3) := by decide +kernel
theorem d_Sounding_know_8 : decode prog_10_method_3_code 8 = .ok (.return_, 1) := by decide +kernel
theorem d_Sounding_know_9 : decode prog_10_method_3_code 9 = .ok (.aload_n 0, 1) := by decide +kernel
theorem d_Sounding_know_10 : decode prog_10_method_3_code 10 = .ok (.iconst 0, 1) := by decide +kernel
theorem d_Sounding_know_11 : decode prog_10_method_3_code 11 = .ok (.putfield 25, 3) := by decide +kernel
theorem d_Sounding_know_14 : decode prog_10_method_3_code 14 = .ok (.iconst 0, 1) := by decide +kernel
theorem d_Sounding_know_15 : decode prog_10_method_3_code 15 = .ok (.istore 5, 2) := by decide +kernel
theorem d_Sounding_know_17 : decode prog_10_method_3_code 17 = .ok (.iload 5, 2) := by decide +kernel
theorem d_Sounding_know_19 : decode prog_10_method_3_code 19 = .ok (.aload 4, 2) := by decide +kernel
theorem d_Sounding_know_21 : decode prog_10_method_3_code 21 = .ok (.getfield 28, 3) := by decide +kernel
theorem d_Sounding_know_24 : decode prog_10_method_3_code 24 = .ok (.if_icmp .ge 20, 3) := by decide +kernel
theorem d_Sounding_know_27 : decode prog_10_method_3_code 27 = .ok (.aload_n 0, 1) := by decide +kernel
theorem d_Sounding_know_28 : decode prog_10_method_3_code 28 = .ok (.iload_n 1, 1) := by decide +kernel
theorem d_Sounding_know_29 : decode prog_10_method_3_code 29 = .ok (.iload 5, 2) := by decide +kernel
theorem d_Sounding_know_31 : decode prog_10_method_3_code 31 = .ok (.aload_n 2, 1) := by decide +kernel
theorem d_Sounding_know_32 : decode prog_10_method_3_code 32 = .ok (.aload_n 3, 1) := by decide +kernel
theorem d_Sounding_know_33 : decode prog_10_method_3_code 33 = .ok (.aload 4, 2) := by decide +kernel
theorem d_Sounding_know_35 : decode prog_10_method_3_code 35 = .ok (.invokevirtual 31, 3) := by decide +kernel
theorem d_Sounding_know_38 : decode prog_10_method_3_code 38 = .ok (.iinc 5 1, 3) := by decide +kernel
theorem d_Sounding_know_41 : decode prog_10_method_3_code 41 = .ok (.goto (-24), 3) := by decide +kernel
theorem d_Sounding_know_44 : decode prog_10_method_3_code 44 = .ok (.aload_n 0, 1) := by decide +kernel
theorem d_Sounding_know_45 : decode prog_10_method_3_code 45 = .ok (.iload_n 1, 1) := by decide +kernel
theorem d_Sounding_know_46 : decode prog_10_method_3_code 46 = .ok (.putfield 21, 3) := by decide +kernel
theorem d_Sounding_know_49 : decode prog_10_method_3_code 49 = .ok (.return_, 1) := by decide +kernel
theorem d_Sounding_gather_0 : decode prog_10_method_4_code 0 = .ok (.iconst 0, 1) := by decide +kernel
theorem d_Sounding_gather_1 : decode prog_10_method_4_code 1 = .ok (.istore 6, 2) := by decide +kernel
theorem d_Sounding_gather_3 : decode prog_10_method_4_code 3 = .ok (.iload 6, 2) := by decide +kernel
theorem d_Sounding_gather_5 : decode prog_10_method_4_code 5 = .ok (.aload 4, 2) := by decide +kernel
theorem d_Sounding_gather_7 : decode prog_10_method_4_code 7 = .ok (.getfield 35, 3) := by decide +kernel
theorem d_Sounding_gather_10 : decode prog_10_method_4_code 10 = .ok (.if_icmp .ge 100, 3) := by decide +kernel
theorem d_Sounding_gather_13 : decode prog_10_method_4_code 13 = .ok (.aload_n 0, 1) := by decide +kernel
theorem d_Sounding_gather_14 : decode prog_10_method_4_code 14 = .ok (.getfield 25, 3) := by decide +kernel
theorem d_Sounding_gather_17 : decode prog_10_method_4_code 17 = .ok (.aload_n 0, 1) := by decide +kernel
theorem d_Sounding_gather_18 : decode prog_10_method_4_code 18 = .ok (.getfield 11, 3) := by decide +kernel
theorem d_Sounding_gather_21 : decode prog_10_method_4_code 21 = .ok (.arraylength, 1) := by decide +kernel
theorem d_Sounding_gather_22 : decode prog_10_method_4_code 22 = .ok (.if_icmp .ge 88, 3) := by decide +kernel
theorem d_Sounding_gather_25 : decode prog_10_method_4_code 25 = .ok (.aload 4, 2) := by decide +kernel
theorem d_Sounding_gather_27 : decode prog_10_method_4_code 27 = .ok (.iload 6, 2) := by decide +kernel
theorem d_Sounding_gather_29 : decode prog_10_method_4_code 29 = .ok (.invokevirtual 38, 3) := by decide +kernel
theorem d_Sounding_gather_32 : decode prog_10_method_4_code 32 = .ok (.astore 7, 2) := by decide +kernel
theorem d_Sounding_gather_34 : decode prog_10_method_4_code 34 = .ok (.aload 7, 2) := by decide +kernel
theorem d_Sounding_gather_36 : decode prog_10_method_4_code 36 = .ok (.ifnull 68, 3) := by decide +kernel
theorem d_Sounding_gather_39 : decode prog_10_method_4_code 39 = .ok (.aload 7, 2) := by decide +kernel
theorem d_Sounding_gather_41 : decode prog_10_method_4_code 41 = .ok (.iload_n 1, 1) := by decide +kernel
theorem d_Sounding_gather_42 : decode prog_10_method_4_code 42 = .ok (.aload 5, 2) := by decide +kernel
theorem d_Sounding_gather_44 : decode prog_10_method_4_code 44 = .ok (.iload_n 2, 1) := by decide +kernel
theorem d_Sounding_gather_45 : decode prog_10_method_4_code 45 = .ok (.invokevirtual 42, 3) := by decide +kernel
theorem d_Sounding_gather_48 : decode prog_10_method_4_code 48 = .ok (.invokevirtual 46, 3) := by decide +kernel
theorem d_Sounding_gather_51 : decode prog_10_method_4_code 51 = .ok (.ifCond .eq 53, 3) := by decide +kernel
theorem d_Sounding_gather_54 : decode prog_10_method_4_code 54 = .ok (.aload 4, 2) := by decide +kernel
theorem d_Sounding_gather_56 : decode prog_10_method_4_code 56 = .ok (.aload 7, 2) := by decide +kernel
theorem d_Sounding_gather_58 : decode prog_10_method_4_code 58 = .ok (.aload_n 3, 1) := by decide +kernel
theorem d_Sounding_gather_59 : decode prog_10_method_4_code 59 = .ok (.aload 5, 2) := by decide +kernel
theorem d_Sounding_gather_61 : decode prog_10_method_4_code 61 = .ok (.iload_n 2, 1) := by decide +kernel
theorem d_Sounding_gather_62 : decode prog_10_method_4_code 62 = .ok (.iconst 1, 1) := by decide +kernel
theorem d_Sounding_gather_63 : decode prog_10_method_4_code 63 = .ok (.isub, 1) := by decide +kernel
theorem d_Sounding_gather_64 : decode prog_10_method_4_code 64 = .ok (.invokevirtual 42, 3) := by decide +kernel
theorem d_Sounding_gather_67 : decode prog_10_method_4_code 67 = .ok (.invokevirtual 50, 3) := by decide +kernel
theorem d_Sounding_gather_70 : decode prog_10_method_4_code 70 = .ok (.ifCond .ne 34, 3) := by decide +kernel
theorem d_Sounding_gather_73 : decode prog_10_method_4_code 73 = .ok (.aload_n 0, 1) := by decide +kernel
theorem d_Sounding_gather_74 : decode prog_10_method_4_code 74 = .ok (.getfield 11, 3) := by decide +kernel
theorem d_Sounding_gather_77 : decode prog_10_method_4_code 77 = .ok (.aload_n 0, 1) := by decide +kernel
theorem d_Sounding_gather_78 : decode prog_10_method_4_code 78 = .ok (.getfield 25, 3) := by decide +kernel
theorem d_Sounding_gather_81 : decode prog_10_method_4_code 81 = .ok (.aload 7, 2) := by decide +kernel
theorem d_Sounding_gather_83 : decode prog_10_method_4_code 83 = .ok (.aastore, 1) := by decide +kernel
theorem d_Sounding_gather_84 : decode prog_10_method_4_code 84 = .ok (.aload_n 0, 1) := by decide +kernel
theorem d_Sounding_gather_85 : decode prog_10_method_4_code 85 = .ok (.getfield 17, 3) := by decide +kernel
theorem d_Sounding_gather_88 : decode prog_10_method_4_code 88 = .ok (.aload_n 0, 1) := by decide +kernel
theorem d_Sounding_gather_89 : decode prog_10_method_4_code 89 = .ok (.getfield 25, 3) := by decide +kernel
theorem d_Sounding_gather_92 : decode prog_10_method_4_code 92 = .ok (.iload_n 2, 1) := by decide +kernel
theorem d_Sounding_gather_93 : decode prog_10_method_4_code 93 = .ok (.iastore, 1) := by decide +kernel
theorem d_Sounding_gather_94 : decode prog_10_method_4_code 94 = .ok (.aload_n 0, 1) := by decide +kernel
theorem d_Sounding_gather_95 : decode prog_10_method_4_code 95 = .ok (.dup, 1) := by decide +kernel
theorem d_Sounding_gather_96 : decode prog_10_method_4_code 96 = .ok (.getfield 25, 3) := by decide +kernel
theorem d_Sounding_gather_99 : decode prog_10_method_4_code 99 = .ok (.iconst 1, 1) := by decide +kernel
theorem d_Sounding_gather_100 : decode prog_10_method_4_code 100 = .ok (.iadd, 1) := by decide +kernel
theorem d_Sounding_gather_101 : decode prog_10_method_4_code 101 = .ok (.putfield 25, 3) := by decide +kernel
theorem d_Sounding_gather_104 : decode prog_10_method_4_code 104 = .ok (.iinc 6 1, 3) := by decide +kernel
theorem d_Sounding_gather_107 : decode prog_10_method_4_code 107 = .ok (.goto (-104), 3) := by decide +kernel
theorem d_Sounding_gather_110 : decode prog_10_method_4_code 110 = .ok (.return_, 1) := by decide +kernel
theorem d_Notes_get_0 : decode prog_5_method_4_code 0 = .ok (.iload_n 1, 1) := by decide +kernel
theorem d_Notes_get_1 : decode prog_5_method_4_code 1 = .ok (.iconst 0, 1) := by decide +kernel
theorem d_Notes_get_2 : decode prog_5_method_4_code 2 = .ok (.aload_n 0, 1) := by decide +kernel
theorem d_Notes_get_3 : decode prog_5_method_4_code 3 = .ok (.getfield 17, 3) := by decide +kernel
theorem d_Notes_get_6 : decode prog_5_method_4_code 6 = .ok (.iconst 1, 1) := by decide +kernel
theorem d_Notes_get_7 : decode prog_5_method_4_code 7 = .ok (.isub, 1) := by decide +kernel
theorem d_Notes_get_8 : decode prog_5_method_4_code 8 = .ok (.invokestatic 29, 3) := by decide +kernel
theorem d_Notes_get_11 : decode prog_5_method_4_code 11 = .ok (.ifCond .eq 12, 3) := by decide +kernel
theorem d_Notes_get_14 : decode prog_5_method_4_code 14 = .ok (.aload_n 0, 1) := by decide +kernel
theorem d_Notes_get_15 : decode prog_5_method_4_code 15 = .ok (.getfield 11, 3) := by decide +kernel
theorem d_Notes_get_18 : decode prog_5_method_4_code 18 = .ok (.iload_n 1, 1) := by decide +kernel
theorem d_Notes_get_19 : decode prog_5_method_4_code 19 = .ok (.aaload, 1) := by decide +kernel
theorem d_Notes_get_20 : decode prog_5_method_4_code 20 = .ok (.goto 4, 3) := by decide +kernel
theorem d_Notes_get_23 : decode prog_5_method_4_code 23 = .ok (.aconst_null, 1) := by decide +kernel
theorem d_Notes_get_24 : decode prog_5_method_4_code 24 = .ok (.areturn, 1) := by decide +kernel
theorem d_Notes_isGoingOn_0 : decode prog_5_method_11_code 0 = .ok (.aload_n 1, 1) := by decide +kernel
theorem d_Notes_isGoingOn_1 : decode prog_5_method_11_code 1 = .ok (.getfield 37, 3) := by decide +kernel
theorem d_Notes_isGoingOn_4 : decode prog_5_method_11_code 4 = .ok (.ifCond .eq 5, 3) := by decide +kernel
theorem d_Notes_isGoingOn_7 : decode prog_5_method_11_code 7 = .ok (.iconst 0, 1) := by decide +kernel
theorem d_Notes_isGoingOn_8 : decode prog_5_method_11_code 8 = .ok (.ireturn, 1) := by decide +kernel
theorem d_Notes_isGoingOn_9 : decode prog_5_method_11_code 9 = .ok (.iconst 0, 1) := by decide +kernel
theorem d_Notes_isGoingOn_10 : decode prog_5_method_11_code 10 = .ok (.istore 4, 2) := by decide +kernel
theorem d_Notes_isGoingOn_12 : decode prog_5_method_11_code 12 = .ok (.iload 4, 2) := by decide +kernel
theorem d_Notes_isGoingOn_14 : decode prog_5_method_11_code 14 = .ok (.aload_n 0, 1) := by decide +kernel
theorem d_Notes_isGoingOn_15 : decode prog_5_method_11_code 15 = .ok (.getfield 17, 3) := by decide +kernel
theorem d_Notes_isGoingOn_18 : decode prog_5_method_11_code 18 = .ok (.if_icmp .ge 54, 3) := by decide +kernel
theorem d_Notes_isGoingOn_21 : decode prog_5_method_11_code 21 = .ok (.aload_n 0, 1) := by decide +kernel
theorem d_Notes_isGoingOn_22 : decode prog_5_method_11_code 22 = .ok (.getfield 11, 3) := by decide +kernel
theorem d_Notes_isGoingOn_25 : decode prog_5_method_11_code 25 = .ok (.iload 4, 2) := by decide +kernel
theorem d_Notes_isGoingOn_27 : decode prog_5_method_11_code 27 = .ok (.aaload, 1) := by decide +kernel
theorem d_Notes_isGoingOn_28 : decode prog_5_method_11_code 28 = .ok (.astore 5, 2) := by decide +kernel
theorem d_Notes_isGoingOn_30 : decode prog_5_method_11_code 30 = .ok (.aload 5, 2) := by decide +kernel
theorem d_Notes_isGoingOn_32 : decode prog_5_method_11_code 32 = .ok (.aload_n 1, 1) := by decide +kernel
theorem d_Notes_isGoingOn_33 : decode prog_5_method_11_code 33 = .ok (.getfield 56, 3) := by decide +kernel
theorem d_Notes_isGoingOn_36 : decode prog_5_method_11_code 36 = .ok (.iload_n 3, 1) := by decide +kernel
theorem d_Notes_isGoingOn_37 : decode prog_5_method_11_code 37 = .ok (.invokevirtual 33, 3) := by decide +kernel
theorem d_Notes_isGoingOn_40 : decode prog_5_method_11_code 40 = .ok (.ifCond .eq 26, 3) := by decide +kernel
theorem d_Notes_isGoingOn_43 : decode prog_5_method_11_code 43 = .ok (.aload 5, 2) := by decide +kernel
theorem d_Notes_isGoingOn_45 : decode prog_5_method_11_code 45 = .ok (.getfield 40, 3) := by decide +kernel
theorem d_Notes_isGoingOn_48 : decode prog_5_method_11_code 48 = .ok (.aload_n 1, 1) := by decide +kernel
theorem d_Notes_isGoingOn_49 : decode prog_5_method_11_code 49 = .ok (.getfield 40, 3) := by decide +kernel
theorem d_Notes_isGoingOn_52 : decode prog_5_method_11_code 52 = .ok (.if_icmp .ne 14, 3) := by decide +kernel
theorem d_Notes_isGoingOn_55 : decode prog_5_method_11_code 55 = .ok (.aload 5, 2) := by decide +kernel
theorem d_Notes_isGoingOn_57 : decode prog_5_method_11_code 57 = .ok (.aload_n 2, 1) := by decide +kernel
theorem d_Notes_isGoingOn_58 : decode prog_5_method_11_code 58 = .ok (.invokevirtual 61, 3) := by decide +kernel
theorem d_Notes_isGoingOn_61 : decode prog_5_method_11_code 61 = .ok (.ifCond .eq 5, 3) := by decide +kernel
theorem d_Notes_isGoingOn_64 : decode prog_5_method_11_code 64 = .ok (.iconst 1, 1) := by decide +kernel
theorem d_Notes_isGoingOn_65 : decode prog_5_method_11_code 65 = .ok (.ireturn, 1) := by decide +kernel
theorem d_Notes_isGoingOn_66 : decode prog_5_method_11_code 66 = .ok (.iinc 4 1, 3) := by decide +kernel
theorem d_Notes_isGoingOn_69 : decode prog_5_method_11_code 69 = .ok (.goto (-57), 3) := by decide +kernel
theorem d_Notes_isGoingOn_72 : decode prog_5_method_11_code 72 = .ok (.iconst 0, 1) := by decide +kernel
theorem d_Notes_isGoingOn_73 : decode prog_5_method_11_code 73 = .ok (.ireturn, 1) := by decide +kernel
theorem d_SR_sound_0 : decode prog_1_method_15_code 0 = .ok (.iload_n 1, 1) := by decide +kernel
theorem d_SR_sound_1 : decode prog_1_method_15_code 1 = .ok (.invokestatic 99, 3) := by decide +kernel
theorem d_SR_sound_4 : decode prog_1_method_15_code 4 = .ok (.aload_n 0, 1) := by decide +kernel
theorem d_SR_sound_5 : decode prog_1_method_15_code 5 = .ok (.invokevirtual 147, 3) := by decide +kernel
theorem d_SR_sound_8 : decode prog_1_method_15_code 8 = .ok (.aload_n 0, 1) := by decide +kernel
theorem d_SR_sound_9 : decode prog_1_method_15_code 9 = .ok (.getfield 42, 3) := by decide +kernel
theorem d_SR_sound_12 : decode prog_1_method_15_code 12 = .ok (.iload_n 1, 1) := by decide +kernel
theorem d_SR_sound_13 : decode prog_1_method_15_code 13 = .ok (.aload_n 0, 1) := by decide +kernel
theorem d_SR_sound_14 : decode prog_1_method_15_code 14 = .ok (.getfield 14, 3) := by decide +kernel
theorem d_SR_sound_17 : decode prog_1_method_15_code 17 = .ok (.aload_n 0, 1) := by decide +kernel
theorem d_SR_sound_18 : decode prog_1_method_15_code 18 = .ok (.getfield 21, 3) := by decide +kernel
theorem d_SR_sound_21 : decode prog_1_method_15_code 21 = .ok (.aload_n 0, 1) := by decide +kernel
theorem d_SR_sound_22 : decode prog_1_method_15_code 22 = .ok (.getfield 35, 3) := by decide +kernel
theorem d_SR_sound_25 : decode prog_1_method_15_code 25 = .ok (.invokevirtual 171, 3) := by decide +kernel
theorem d_SR_sound_28 : decode prog_1_method_15_code 28 = .ok (.iload_n 2, 1) := by decide +kernel
theorem d_SR_sound_29 : decode prog_1_method_15_code 29 = .ok (.iconst 0, 1) := by decide +kernel
theorem d_SR_sound_30 : decode prog_1_method_15_code 30 = .ok (.aload_n 0, 1) := by decide +kernel
theorem d_SR_sound_31 : decode prog_1_method_15_code 31 = .ok (.getfield 42, 3) := by decide +kernel
theorem d_SR_sound_34 : decode prog_1_method_15_code 34 = .ok (.getfield 175, 3) := by decide +kernel
theorem d_SR_sound_37 : decode prog_1_method_15_code 37 = .ok (.iconst 1, 1) := by decide +kernel
theorem d_SR_sound_38 : decode prog_1_method_15_code 38 = .ok (.isub, 1) := by decide +kernel
theorem d_SR_sound_39 : decode prog_1_method_15_code 39 = .ok (.invokestatic 50, 3) := by decide +kernel
theorem d_SR_sound_42 : decode prog_1_method_15_code 42 = .ok (.ifCond .ne 7, 3) := by decide +kernel
theorem d_SR_sound_45 : decode prog_1_method_15_code 45 = .ok (.ldc2_w 176, 3) := by decide +kernel
theorem d_SR_sound_48 : decode prog_1_method_15_code 48 = .ok (.lreturn, 1) := by decide +kernel
theorem d_SR_sound_49 : decode prog_1_method_15_code 49 = .ok (.iload_n 3, 1) := by decide +kernel
theorem d_SR_sound_50 : decode prog_1_method_15_code 50 = .ok (.tableswitch 101 0 3 #[30, 47, 57, 79], 30) := by decide +kernel
theorem d_SR_sound_80 : decode prog_1_method_15_code 80 = .ok (.aload_n 0, 1) := by decide +kernel
theorem d_SR_sound_81 : decode prog_1_method_15_code 81 = .ok (.getfield 42, 3) := by decide +kernel
theorem d_SR_sound_84 : decode prog_1_method_15_code 84 = .ok (.iload_n 2, 1) := by decide +kernel
theorem d_SR_sound_85 : decode prog_1_method_15_code 85 = .ok (.aload_n 0, 1) := by decide +kernel
theorem d_SR_sound_86 : decode prog_1_method_15_code 86 = .ok (.getfield 14, 3) := by decide +kernel
theorem d_SR_sound_89 : decode prog_1_method_15_code 89 = .ok (.aload_n 0, 1) := by decide +kernel
theorem d_SR_sound_90 : decode prog_1_method_15_code 90 = .ok (.getfield 35, 3) := by decide +kernel
theorem d_SR_sound_93 : decode prog_1_method_15_code 93 = .ok (.invokevirtual 178, 3) := by decide +kernel
theorem d_SR_sound_96 : decode prog_1_method_15_code 96 = .ok (.lreturn, 1) := by decide +kernel
theorem d_SR_sound_97 : decode prog_1_method_15_code 97 = .ok (.aload_n 0, 1) := by decide +kernel
theorem d_SR_sound_98 : decode prog_1_method_15_code 98 = .ok (.getfield 42, 3) := by decide +kernel
theorem d_SR_sound_101 : decode prog_1_method_15_code 101 = .ok (.iload_n 2, 1) := by decide +kernel
theorem d_SR_sound_102 : decode prog_1_method_15_code 102 = .ok (.invokevirtual 182, 3) := by decide +kernel
theorem d_SR_sound_105 : decode prog_1_method_15_code 105 = .ok (.i2l, 1) := by decide +kernel
theorem d_SR_sound_106 : decode prog_1_method_15_code 106 = .ok (.lreturn, 1) := by decide +kernel
theorem d_SR_sound_107 : decode prog_1_method_15_code 107 = .ok (.aload_n 0, 1) := by decide +kernel
theorem d_SR_sound_108 : decode prog_1_method_15_code 108 = .ok (.getfield 42, 3) := by decide +kernel
theorem d_SR_sound_111 : decode prog_1_method_15_code 111 = .ok (.iload_n 2, 1) := by decide +kernel
theorem d_SR_sound_112 : decode prog_1_method_15_code 112 = .ok (.iconst 0, 1) := by decide +kernel
theorem d_SR_sound_113 : decode prog_1_method_15_code 113 = .ok (.aload_n 0, 1) := by decide +kernel
theorem d_SR_sound_114 : decode prog_1_method_15_code 114 = .ok (.getfield 14, 3) := by decide +kernel
theorem d_SR_sound_117 : decode prog_1_method_15_code 117 = .ok (.aload_n 0, 1) := by decide +kernel
theorem d_SR_sound_118 : decode prog_1_method_15_code 118 = .ok (.getfield 21, 3) := by decide +kernel
theorem d_SR_sound_121 : decode prog_1_method_15_code 121 = .ok (.aload_n 0, 1) := by decide +kernel
theorem d_SR_sound_122 : decode prog_1_method_15_code 122 = .ok (.getfield 35, 3) := by decide +kernel
theorem d_SR_sound_125 : decode prog_1_method_15_code 125 = .ok (.invokevirtual 185, 3) := by decide +kernel
theorem d_SR_sound_128 : decode prog_1_method_15_code 128 = .ok (.lreturn, 1) := by decide +kernel
theorem d_SR_sound_129 : decode prog_1_method_15_code 129 = .ok (.aload_n 0, 1) := by decide +kernel
theorem d_SR_sound_130 : decode prog_1_method_15_code 130 = .ok (.getfield 42, 3) := by decide +kernel
theorem d_SR_sound_133 : decode prog_1_method_15_code 133 = .ok (.iload_n 2, 1) := by decide +kernel
theorem d_SR_sound_134 : decode prog_1_method_15_code 134 = .ok (.iconst 1, 1) := by decide +kernel
theorem d_SR_sound_135 : decode prog_1_method_15_code 135 = .ok (.aload_n 0, 1) := by decide +kernel
theorem d_SR_sound_136 : decode prog_1_method_15_code 136 = .ok (.getfield 14, 3) := by decide +kernel
theorem d_SR_sound_139 : decode prog_1_method_15_code 139 = .ok (.aload_n 0, 1) := by decide +kernel
theorem d_SR_sound_140 : decode prog_1_method_15_code 140 = .ok (.getfield 21, 3) := by decide +kernel
theorem d_SR_sound_143 : decode prog_1_method_15_code 143 = .ok (.aload_n 0, 1) := by decide +kernel
theorem d_SR_sound_144 : decode prog_1_method_15_code 144 = .ok (.getfield 35, 3) := by decide +kernel
theorem d_SR_sound_147 : decode prog_1_method_15_code 147 = .ok (.invokevirtual 185, 3) := by decide +kernel
theorem d_SR_sound_150 : decode prog_1_method_15_code 150 = .ok (.lreturn, 1) := by decide +kernel
theorem d_SR_sound_151 : decode prog_1_method_15_code 151 = .ok (.ldc2_w 176, 3) := by decide +kernel
theorem d_SR_sound_154 : decode prog_1_method_15_code 154 = .ok (.lreturn, 1) := by decide +kernel
theorem d_Sounding_beginOf_0 : decode prog_10_method_6_code 0 = .ok (.aload_n 0, 1) := by decide +kernel
theorem d_Sounding_beginOf_1 : decode prog_10_method_6_code 1 = .ok (.iload_n 1, 1) := by decide +kernel
theorem d_Sounding_beginOf_2 : decode prog_10_method_6_code 2 = .ok (.invokevirtual 58, 3) := by decide +kernel
theorem d_Sounding_beginOf_5 : decode prog_10_method_6_code 5 = .ok (.astore 4, 2) := by decide +kernel
theorem d_Sounding_beginOf_7 : decode prog_10_method_6_code 7 = .ok (.aload 4, 2) := by decide +kernel
theorem d_Sounding_beginOf_9 : decode prog_10_method_6_code 9 = .ok (.ifnonnull 7, 3) := by decide +kernel
theorem d_Sounding_beginOf_12 : decode prog_10_method_6_code 12 = .ok (.ldc2_w 61, 3) := by decide +kernel
theorem d_Sounding_beginOf_15 : decode prog_10_method_6_code 15 = .ok (.lreturn, 1) := by decide +kernel
theorem d_Sounding_beginOf_16 : decode prog_10_method_6_code 16 = .ok (.aload_n 3, 1) := by decide +kernel
theorem d_Sounding_beginOf_17 : decode prog_10_method_6_code 17 = .ok (.aload_n 2, 1) := by decide +kernel
theorem d_Sounding_beginOf_18 : decode prog_10_method_6_code 18 = .ok (.aload_n 0, 1) := by decide +kernel
theorem d_Sounding_beginOf_19 : decode prog_10_method_6_code 19 = .ok (.getfield 17, 3) := by decide +kernel
theorem d_Sounding_beginOf_22 : decode prog_10_method_6_code 22 = .ok (.iload_n 1, 1) := by decide +kernel
theorem d_Sounding_beginOf_23 : decode prog_10_method_6_code 23 = .ok (.iaload, 1) := by decide +kernel
theorem d_Sounding_beginOf_24 : decode prog_10_method_6_code 24 = .ok (.invokevirtual 63, 3) := by decide +kernel
theorem d_Sounding_beginOf_27 : decode prog_10_method_6_code 27 = .ok (.aload 4, 2) := by decide +kernel
theorem d_Sounding_beginOf_29 : decode prog_10_method_6_code 29 = .ok (.getfield 67, 3) := by decide +kernel
theorem d_Sounding_beginOf_32 : decode prog_10_method_6_code 32 = .ok (.i2l, 1) := by decide +kernel
theorem d_Sounding_beginOf_33 : decode prog_10_method_6_code 33 = .ok (.aload_n 2, 1) := by decide +kernel
theorem d_Sounding_beginOf_34 : decode prog_10_method_6_code 34 = .ok (.aload 4, 2) := by decide +kernel
theorem d_Sounding_beginOf_36 : decode prog_10_method_6_code 36 = .ok (.getfield 70, 3) := by decide +kernel
theorem d_Sounding_beginOf_39 : decode prog_10_method_6_code 39 = .ok (.invokevirtual 73, 3) := by decide +kernel
theorem d_Sounding_beginOf_42 : decode prog_10_method_6_code 42 = .ok (.i2l, 1) := by decide +kernel
theorem d_Sounding_beginOf_43 : decode prog_10_method_6_code 43 = .ok (.lmul, 1) := by decide +kernel
theorem d_Sounding_beginOf_44 : decode prog_10_method_6_code 44 = .ok (.ladd, 1) := by decide +kernel
theorem d_Sounding_beginOf_45 : decode prog_10_method_6_code 45 = .ok (.lreturn, 1) := by decide +kernel
theorem d_Sounding_firstOf_0 : decode prog_10_method_5_code 0 = .ok (.iload_n 1, 1) := by decide +kernel
theorem d_Sounding_firstOf_1 : decode prog_10_method_5_code 1 = .ok (.iconst 0, 1) := by decide +kernel
theorem d_Sounding_firstOf_2 : decode prog_10_method_5_code 2 = .ok (.aload_n 0, 1) := by decide +kernel
theorem d_Sounding_firstOf_3 : decode prog_10_method_5_code 3 = .ok (.getfield 25, 3) := by decide +kernel
theorem d_Sounding_firstOf_6 : decode prog_10_method_5_code 6 = .ok (.iconst 1, 1) := by decide +kernel
theorem d_Sounding_firstOf_7 : decode prog_10_method_5_code 7 = .ok (.isub, 1) := by decide +kernel
theorem d_Sounding_firstOf_8 : decode prog_10_method_5_code 8 = .ok (.invokestatic 54, 3) := by decide +kernel
theorem d_Sounding_firstOf_11 : decode prog_10_method_5_code 11 = .ok (.ifCond .eq 12, 3) := by decide +kernel
theorem d_Sounding_firstOf_14 : decode prog_10_method_5_code 14 = .ok (.aload_n 0, 1) := by decide +kernel
theorem d_Sounding_firstOf_15 : decode prog_10_method_5_code 15 = .ok (.getfield 11, 3) := by decide +kernel
theorem d_Sounding_firstOf_18 : decode prog_10_method_5_code 18 = .ok (.iload_n 1, 1) := by decide +kernel
theorem d_Sounding_firstOf_19 : decode prog_10_method_5_code 19 = .ok (.aaload, 1) := by decide +kernel
theorem d_Sounding_firstOf_20 : decode prog_10_method_5_code 20 = .ok (.goto 4, 3) := by decide +kernel
theorem d_Sounding_firstOf_23 : decode prog_10_method_5_code 23 = .ok (.aconst_null, 1) := by decide +kernel
theorem d_Sounding_firstOf_24 : decode prog_10_method_5_code 24 = .ok (.areturn, 1) := by decide +kernel
theorem d_Sounding_pitchOf_0 : decode prog_10_method_7_code 0 = .ok (.aload_n 0, 1) := by decide +kernel
theorem d_Sounding_pitchOf_1 : decode prog_10_method_7_code 1 = .ok (.iload_n 1, 1) := by decide +kernel
theorem d_Sounding_pitchOf_2 : decode prog_10_method_7_code 2 = .ok (.invokevirtual 58, 3) := by decide +kernel
theorem d_Sounding_pitchOf_5 : decode prog_10_method_7_code 5 = .ok (.astore_n 2, 1) := by decide +kernel
theorem d_Sounding_pitchOf_6 : decode prog_10_method_7_code 6 = .ok (.aload_n 2, 1) := by decide +kernel
theorem d_Sounding_pitchOf_7 : decode prog_10_method_7_code 7 = .ok (.ifnonnull 7, 3) := by decide +kernel
theorem d_Sounding_pitchOf_10 : decode prog_10_method_7_code 10 = .ok (.iconst (-1), 1) := by decide +kernel
theorem d_Sounding_pitchOf_11 : decode prog_10_method_7_code 11 = .ok (.goto 7, 3) := by decide +kernel
theorem d_Sounding_pitchOf_14 : decode prog_10_method_7_code 14 = .ok (.aload_n 2, 1) := by decide +kernel
theorem d_Sounding_pitchOf_15 : decode prog_10_method_7_code 15 = .ok (.getfield 78, 3) := by decide +kernel
theorem d_Sounding_pitchOf_18 : decode prog_10_method_7_code 18 = .ok (.ireturn, 1) := by decide +kernel
theorem d_Sounding_lengthOf_0 : decode prog_10_method_8_code 0 = .ok (.aload_n 0, 1) := by decide +kernel
theorem d_Sounding_lengthOf_1 : decode prog_10_method_8_code 1 = .ok (.iload_n 1, 1) := by decide +kernel
theorem d_Sounding_lengthOf_2 : decode prog_10_method_8_code 2 = .ok (.invokevirtual 58, 3) := by decide +kernel
theorem d_Sounding_lengthOf_5 : decode prog_10_method_8_code 5 = .ok (.astore 6, 2) := by decide +kernel
theorem d_Sounding_lengthOf_7 : decode prog_10_method_8_code 7 = .ok (.aload 6, 2) := by decide +kernel
theorem d_Sounding_lengthOf_9 : decode prog_10_method_8_code 9 = .ok (.ifnonnull 7, 3) := by decide +kernel
theorem d_Sounding_lengthOf_12 : decode prog_10_method_8_code 12 = .ok (.ldc2_w 61, 3) := by decide +kernel
theorem d_Sounding_lengthOf_15 : decode prog_10_method_8_code 15 = .ok (.lreturn, 1) := by decide +kernel
theorem d_Sounding_lengthOf_16 : decode prog_10_method_8_code 16 = .ok (.lconst 0, 1) := by decide +kernel
theorem d_Sounding_lengthOf_17 : decode prog_10_method_8_code 17 = .ok (.lstore 7, 2) := by decide +kernel
theorem d_Sounding_lengthOf_19 : decode prog_10_method_8_code 19 = .ok (.aload_n 0, 1) := by decide +kernel
theorem d_Sounding_lengthOf_20 : decode prog_10_method_8_code 20 = .ok (.getfield 17, 3) := by decide +kernel
theorem d_Sounding_lengthOf_23 : decode prog_10_method_8_code 23 = .ok (.iload_n 1, 1) := by decide +kernel
theorem d_Sounding_lengthOf_24 : decode prog_10_method_8_code 24 = .ok (.iaload, 1) := by decide +kernel
theorem d_Sounding_lengthOf_25 : decode prog_10_method_8_code 25 = .ok (.istore 9, 2) := by decide +kernel
theorem d_Sounding_lengthOf_27 : decode prog_10_method_8_code 27 = .ok (.aload 6, 2) := by decide +kernel
theorem d_Sounding_lengthOf_29 : decode prog_10_method_8_code 29 = .ok (.ifnull 68, 3) := by decide +kernel
theorem d_Sounding_lengthOf_32 : decode prog_10_method_8_code 32 = .ok (.iload 9, 2) := by decide +kernel
theorem d_Sounding_lengthOf_34 : decode prog_10_method_8_code 34 = .ok (.aload 5, 2) := by decide +kernel
theorem d_Sounding_lengthOf_36 : decode prog_10_method_8_code 36 = .ok (.getfield 28, 3) := by decide +kernel
theorem d_Sounding_lengthOf_39 : decode prog_10_method_8_code 39 = .ok (.if_icmp .ge 58, 3) := by decide +kernel
theorem d_Sounding_lengthOf_42 : decode prog_10_method_8_code 42 = .ok (.lload 7, 2) := by decide +kernel
theorem d_Sounding_lengthOf_44 : decode prog_10_method_8_code 44 = .ok (.aload 6, 2) := by decide +kernel
theorem d_Sounding_lengthOf_46 : decode prog_10_method_8_code 46 = .ok (.getfield 81, 3) := by decide +kernel
theorem d_Sounding_lengthOf_49 : decode prog_10_method_8_code 49 = .ok (.i2l, 1) := by decide +kernel
theorem d_Sounding_lengthOf_50 : decode prog_10_method_8_code 50 = .ok (.iload_n 2, 1) := by decide +kernel
theorem d_Sounding_lengthOf_51 : decode prog_10_method_8_code 51 = .ok (.ifCond .eq 15, 3) := by decide +kernel
theorem d_Sounding_lengthOf_54 : decode prog_10_method_8_code 54 = .ok (.aload_n 3, 1) := by decide +kernel
theorem d_Sounding_lengthOf_55 : decode prog_10_method_8_code 55 = .ok (.aload 6, 2) := by decide +kernel
theorem d_Sounding_lengthOf_57 : decode prog_10_method_8_code 57 = .ok (.getfield 70, 3) := by decide +kernel
theorem d_Sounding_lengthOf_60 : decode prog_10_method_8_code 60 = .ok (.invokevirtual 73, 3) := by decide +kernel
theorem d_Sounding_lengthOf_63 : decode prog_10_method_8_code 63 = .ok (.goto 4, 3) := by decide +kernel
theorem d_Sounding_lengthOf_66 : decode prog_10_method_8_code 66 = .ok (.iconst 1, 1) := by decide +kernel
theorem d_Sounding_lengthOf_67 : decode prog_10_method_8_code 67 = .ok (.i2l, 1) := by decide +kernel
theorem d_Sounding_lengthOf_68 : decode prog_10_method_8_code 68 = .ok (.lmul, 1) := by decide +kernel
theorem d_Sounding_lengthOf_69 : decode prog_10_method_8_code 69 = .ok (.ladd, 1) := by decide +kernel
theorem d_Sounding_lengthOf_70 : decode prog_10_method_8_code 70 = .ok (.lstore 7, 2) := by decide +kernel
theorem d_Sounding_lengthOf_72 : decode prog_10_method_8_code 72 = .ok (.aload 4, 2) := by decide +kernel
theorem d_Sounding_lengthOf_74 : decode prog_10_method_8_code 74 = .ok (.aload 6, 2) := by decide +kernel
theorem d_Sounding_lengthOf_76 : decode prog_10_method_8_code 76 = .ok (.aload_n 3, 1) := by decide +kernel
theorem d_Sounding_lengthOf_77 : decode prog_10_method_8_code 77 = .ok (.aload 5, 2) := by decide +kernel
theorem d_Sounding_lengthOf_79 : decode prog_10_method_8_code 79 = .ok (.iload 9, 2) := by decide +kernel
theorem d_Sounding_lengthOf_81 : decode prog_10_method_8_code 81 = .ok (.iconst 1, 1) := by decide +kernel
theorem d_Sounding_lengthOf_82 : decode prog_10_method_8_code 82 = .ok (.iadd, 1) := by decide +kernel
theorem d_Sounding_lengthOf_83 : decode prog_10_method_8_code 83 = .ok (.invokevirtual 42, 3) := by decide +kernel
theorem d_Sounding_lengthOf_86 : decode prog_10_method_8_code 86 = .ok (.invokevirtual 84, 3) := by decide +kernel
theorem d_Sounding_lengthOf_89 : decode prog_10_method_8_code 89 = .ok (.astore 6, 2) := by decide +kernel
theorem d_Sounding_lengthOf_91 : decode prog_10_method_8_code 91 = .ok (.iinc 9 1, 3) := by decide +kernel
theorem d_Sounding_lengthOf_94 : decode prog_10_method_8_code 94 = .ok (.goto (-67), 3) := by decide +kernel
theorem d_Sounding_lengthOf_97 : decode prog_10_method_8_code 97 = .ok (.lload 7, 2) := by decide +kernel
theorem d_Sounding_lengthOf_99 : decode prog_10_method_8_code 99 = .ok (.lreturn, 1) := by decide +kernel
theorem d_Notes_goingOn_0 : decode prog_5_method_10_code 0 = .ok (.aload_n 1, 1) := by decide +kernel
theorem d_Notes_goingOn_1 : decode prog_5_method_10_code 1 = .ok (.aload_n 2, 1) := by decide +kernel
theorem d_Notes_goingOn_2 : decode prog_5_method_10_code 2 = .ok (.invokevirtual 61, 3) := by decide +kernel
theorem d_Notes_goingOn_5 : decode prog_5_method_10_code 5 = .ok (.ifCond .eq 20, 3) := by decide +kernel
theorem d_Notes_goingOn_8 : decode prog_5_method_10_code 8 = .ok (.aload_n 0, 1) := by decide +kernel
theorem d_Notes_goingOn_9 : decode prog_5_method_10_code 9 = .ok (.aload_n 1, 1) := by decide +kernel
theorem d_Notes_goingOn_10 : decode prog_5_method_10_code 10 = .ok (.getfield 56, 3) := by decide +kernel
theorem d_Notes_goingOn_13 : decode prog_5_method_10_code 13 = .ok (.iload_n 3, 1) := by decide +kernel
theorem d_Notes_goingOn_14 : decode prog_5_method_10_code 14 = .ok (.iconst 0, 1) := by decide +kernel
theorem d_Notes_goingOn_15 : decode prog_5_method_10_code 15 = .ok (.aload_n 1, 1) := by decide +kernel
theorem d_Notes_goingOn_16 : decode prog_5_method_10_code 16 = .ok (.getfield 40, 3) := by decide +kernel
theorem d_Notes_goingOn_19 : decode prog_5_method_10_code 19 = .ok (.invokevirtual 65, 3) := by decide +kernel
theorem d_Notes_goingOn_22 : decode prog_5_method_10_code 22 = .ok (.goto 4, 3) := by decide +kernel
theorem d_Notes_goingOn_25 : decode prog_5_method_10_code 25 = .ok (.aconst_null, 1) := by decide +kernel
theorem d_Notes_goingOn_26 : decode prog_5_method_10_code 26 = .ok (.areturn, 1) := by decide +kernel
theorem d_SR_rest_0 : decode prog_1_method_16_code 0 = .ok (.iload_n 1, 1) := by decide +kernel
theorem d_SR_rest_1 : decode prog_1_method_16_code 1 = .ok (.invokestatic 99, 3) := by decide +kernel
theorem d_SR_rest_4 : decode prog_1_method_16_code 4 = .ok (.iconst 0, 1) := by decide +kernel
theorem d_SR_rest_5 : decode prog_1_method_16_code 5 = .ok (.istore_n 3, 1) := by decide +kernel
theorem d_SR_rest_6 : decode prog_1_method_16_code 6 = .ok (.iconst 0, 1) := by decide +kernel
theorem d_SR_rest_7 : decode prog_1_method_16_code 7 = .ok (.istore 4, 2) := by decide +kernel
theorem d_SR_rest_9 : decode prog_1_method_16_code 9 = .ok (.iload 4, 2) := by decide +kernel
theorem d_SR_rest_11 : decode prog_1_method_16_code 11 = .ok (.aload_n 0, 1) := by decide +kernel
theorem d_SR_rest_12 : decode prog_1_method_16_code 12 = .ok (.getfield 14, 3) := by decide +kernel
theorem d_SR_rest_15 : decode prog_1_method_16_code 15 = .ok (.getfield 188, 3) := by decide +kernel
theorem d_SR_rest_18 : decode prog_1_method_16_code 18 = .ok (.if_icmp .ge 54, 3) := by decide +kernel
theorem d_SR_rest_21 : decode prog_1_method_16_code 21 = .ok (.aload_n 0, 1) := by decide +kernel
theorem d_SR_rest_22 : decode prog_1_method_16_code 22 = .ok (.getfield 21, 3) := by decide +kernel
theorem d_SR_rest_25 : decode prog_1_method_16_code 25 = .ok (.iload_n 1, 1) := by decide +kernel
theorem d_SR_rest_26 : decode prog_1_method_16_code 26 = .ok (.iload 4, 2) := by decide +kernel
theorem d_SR_rest_28 : decode prog_1_method_16_code 28 = .ok (.invokevirtual 191, 3) := by decide +kernel
theorem d_SR_rest_31 : decode prog_1_method_16_code 31 = .ok (.ifCond .eq 35, 3) := by decide +kernel
theorem d_SR_rest_34 : decode prog_1_method_16_code 34 = .ok (.aload_n 0, 1) := by decide +kernel
theorem d_SR_rest_35 : decode prog_1_method_16_code 35 = .ok (.iload_n 1, 1) := by decide +kernel
theorem d_SR_rest_36 : decode prog_1_method_16_code 36 = .ok (.iload 4, 2) := by decide +kernel
theorem d_SR_rest_38 : decode prog_1_method_16_code 38 = .ok (.invokevirtual 194, 3) := by decide +kernel
theorem d_SR_rest_41 : decode prog_1_method_16_code 41 = .ok (.ifCond .ne 25, 3) := by decide +kernel
theorem d_SR_rest_44 : decode prog_1_method_16_code 44 = .ok (.iload_n 3, 1) := by decide +kernel
theorem d_SR_rest_45 : decode prog_1_method_16_code 45 = .ok (.iload_n 2, 1) := by decide +kernel
theorem d_SR_rest_46 : decode prog_1_method_16_code 46 = .ok (.if_icmp .ne 17, 3) := by decide +kernel
theorem d_SR_rest_49 : decode prog_1_method_16_code 49 = .ok (.bipush 100, 2) := by decide +kernel
theorem d_SR_rest_51 : decode prog_1_method_16_code 51 = .ok (.iload 4, 2) := by decide +kernel
theorem d_SR_rest_53 : decode prog_1_method_16_code 53 = .ok (.imul, 1) := by decide +kernel
theorem d_SR_rest_54 : decode prog_1_method_16_code 54 = .ok (.aload_n 0, 1) := by decide +kernel
theorem d_SR_rest_55 : decode prog_1_method_16_code 55 = .ok (.iload_n 1, 1) := by decide +kernel
theorem d_SR_rest_56 : decode prog_1_method_16_code 56 = .ok (.iload 4, 2) := by decide +kernel
theorem d_SR_rest_58 : decode prog_1_method_16_code 58 = .ok (.invokevirtual 197, 3) := by decide +kernel
theorem d_SR_rest_61 : decode prog_1_method_16_code 61 = .ok (.iadd, 1) := by decide +kernel
theorem d_SR_rest_62 : decode prog_1_method_16_code 62 = .ok (.ireturn, 1) := by decide +kernel
theorem d_SR_rest_63 : decode prog_1_method_16_code 63 = .ok (.iinc 3 1, 3) := by decide +kernel
theorem d_SR_rest_66 : decode prog_1_method_16_code 66 = .ok (.iinc 4 1, 3) := by decide +kernel
theorem d_SR_rest_69 : decode prog_1_method_16_code 69 = .ok (.goto (-60), 3) := by decide +kernel
theorem d_SR_rest_72 : decode prog_1_method_16_code 72 = .ok (.iconst (-1), 1) := by decide +kernel
theorem d_SR_rest_73 : decode prog_1_method_16_code 73 = .ok (.ireturn, 1) := by decide +kernel
theorem d_Notes_isRest_0 : decode prog_5_method_6_code 0 = .ok (.iconst 0, 1) := by decide +kernel
theorem d_Notes_isRest_1 : decode prog_5_method_6_code 1 = .ok (.istore_n 3, 1) := by decide +kernel
theorem d_Notes_isRest_2 : decode prog_5_method_6_code 2 = .ok (.iload_n 3, 1) := by decide +kernel
theorem d_Notes_isRest_3 : decode prog_5_method_6_code 3 = .ok (.aload_n 0, 1) := by decide +kernel
theorem d_Notes_isRest_4 : decode prog_5_method_6_code 4 = .ok (.getfield 17, 3) := by decide +kernel
theorem d_Notes_isRest_7 : decode prog_5_method_6_code 7 = .ok (.if_icmp .ge 25, 3) := by decide +kernel
theorem d_Notes_isRest_10 : decode prog_5_method_6_code 10 = .ok (.aload_n 0, 1) := by decide +kernel
theorem d_Notes_isRest_11 : decode prog_5_method_6_code 11 = .ok (.getfield 11, 3) := by decide +kernel
theorem d_Notes_isRest_14 : decode prog_5_method_6_code 14 = .ok (.iload_n 3, 1) := by decide +kernel
theorem d_Notes_isRest_15 : decode prog_5_method_6_code 15 = .ok (.aaload, 1) := by decide +kernel
theorem d_Notes_isRest_16 : decode prog_5_method_6_code 16 = .ok (.iload_n 1, 1) := by decide +kernel
theorem d_Notes_isRest_17 : decode prog_5_method_6_code 17 = .ok (.iload_n 2, 1) := by decide +kernel
theorem d_Notes_isRest_18 : decode prog_5_method_6_code 18 = .ok (.invokevirtual 33, 3) := by decide +kernel
theorem d_Notes_isRest_21 : decode prog_5_method_6_code 21 = .ok (.ifCond .eq 5, 3) := by decide +kernel
theorem d_Notes_isRest_24 : decode prog_5_method_6_code 24 = .ok (.iconst 0, 1) := by decide +kernel
theorem d_Notes_isRest_25 : decode prog_5_method_6_code 25 = .ok (.ireturn, 1) := by decide +kernel
theorem d_Notes_isRest_26 : decode prog_5_method_6_code 26 = .ok (.iinc 3 1, 3) := by decide +kernel
theorem d_Notes_isRest_29 : decode prog_5_method_6_code 29 = .ok (.goto (-27), 3) := by decide +kernel
theorem d_Notes_isRest_32 : decode prog_5_method_6_code 32 = .ok (.iconst 1, 1) := by decide +kernel
theorem d_Notes_isRest_33 : decode prog_5_method_6_code 33 = .ok (.ireturn, 1) := by decide +kernel
theorem d_SR_goesOnResting_0 : decode prog_1_method_18_code 0 = .ok (.iload_n 2, 1) := by decide +kernel
theorem d_SR_goesOnResting_1 : decode prog_1_method_18_code 1 = .ok (.ifCond .le 32, 3) := by decide +kernel
theorem d_SR_goesOnResting_4 : decode prog_1_method_18_code 4 = .ok (.aload_n 0, 1) := by decide +kernel
theorem d_SR_goesOnResting_5 : decode prog_1_method_18_code 5 = .ok (.getfield 21, 3) := by decide +kernel
theorem d_SR_goesOnResting_8 : decode prog_1_method_18_code 8 = .ok (.iload_n 1, 1) := by decide +kernel
theorem d_SR_goesOnResting_9 : decode prog_1_method_18_code 9 = .ok (.iload_n 2, 1) := by decide +kernel
theorem d_SR_goesOnResting_10 : decode prog_1_method_18_code 10 = .ok (.iconst 1, 1) := by decide +kernel
theorem d_SR_goesOnResting_11 : decode prog_1_method_18_code 11 = .ok (.isub, 1) := by decide +kernel
theorem d_SR_goesOnResting_12 : decode prog_1_method_18_code 12 = .ok (.invokevirtual 191, 3) := by decide +kernel
theorem d_SR_goesOnResting_15 : decode prog_1_method_18_code 15 = .ok (.ifCond .eq 18, 3) := by decide +kernel
theorem d_SR_goesOnResting_18 : decode prog_1_method_18_code 18 = .ok (.aload_n 0, 1) := by decide +kernel
theorem d_SR_goesOnResting_19 : decode prog_1_method_18_code 19 = .ok (.getfield 14, 3) := by decide +kernel
theorem d_SR_goesOnResting_22 : decode prog_1_method_18_code 22 = .ok (.iload_n 2, 1) := by decide +kernel
theorem d_SR_goesOnResting_23 : decode prog_1_method_18_code 23 = .ok (.invokevirtual 200, 3) := by decide +kernel
theorem d_SR_goesOnResting_26 : decode prog_1_method_18_code 26 = .ok (.ifCond .ne 7, 3) := by decide +kernel
theorem d_SR_goesOnResting_29 : decode prog_1_method_18_code 29 = .ok (.iconst 1, 1) := by decide +kernel
theorem d_SR_goesOnResting_30 : decode prog_1_method_18_code 30 = .ok (.goto 4, 3) := by decide +kernel
theorem d_SR_goesOnResting_33 : decode prog_1_method_18_code 33 = .ok (.iconst 0, 1) := by decide +kernel
theorem d_SR_goesOnResting_34 : decode prog_1_method_18_code 34 = .ok (.ireturn, 1) := by decide +kernel
theorem d_SR_restBars_0 : decode prog_1_method_17_code 0 = .ok (.iload_n 2, 1) := by decide +kernel
theorem d_SR_restBars_1 : decode prog_1_method_17_code 1 = .ok (.iconst 1, 1) := by decide +kernel
theorem d_SR_restBars_2 : decode prog_1_method_17_code 2 = .ok (.iadd, 1) := by decide +kernel
theorem d_SR_restBars_3 : decode prog_1_method_17_code 3 = .ok (.istore_n 3, 1) := by decide +kernel
theorem d_SR_restBars_4 : decode prog_1_method_17_code 4 = .ok (.iload_n 3, 1) := by decide +kernel
theorem d_SR_restBars_5 : decode prog_1_method_17_code 5 = .ok (.aload_n 0, 1) := by decide +kernel
theorem d_SR_restBars_6 : decode prog_1_method_17_code 6 = .ok (.getfield 14, 3) := by decide +kernel
theorem d_SR_restBars_9 : decode prog_1_method_17_code 9 = .ok (.getfield 188, 3) := by decide +kernel
theorem d_SR_restBars_12 : decode prog_1_method_17_code 12 = .ok (.if_icmp .ge 30, 3) := by decide +kernel
theorem d_SR_restBars_15 : decode prog_1_method_17_code 15 = .ok (.aload_n 0, 1) := by decide +kernel
theorem d_SR_restBars_16 : decode prog_1_method_17_code 16 = .ok (.getfield 21, 3) := by decide +kernel
theorem d_SR_restBars_19 : decode prog_1_method_17_code 19 = .ok (.iload_n 1, 1) := by decide +kernel
theorem d_SR_restBars_20 : decode prog_1_method_17_code 20 = .ok (.iload_n 3, 1) := by decide +kernel
theorem d_SR_restBars_21 : decode prog_1_method_17_code 21 = .ok (.invokevirtual 191, 3) := by decide +kernel
theorem d_SR_restBars_24 : decode prog_1_method_17_code 24 = .ok (.ifCond .eq 18, 3) := by decide +kernel
theorem d_SR_restBars_27 : decode prog_1_method_17_code 27 = .ok (.aload_n 0, 1) := by decide +kernel
theorem d_SR_restBars_28 : decode prog_1_method_17_code 28 = .ok (.iload_n 1, 1) := by decide +kernel
theorem d_SR_restBars_29 : decode prog_1_method_17_code 29 = .ok (.iload_n 3, 1) := by decide +kernel
theorem d_SR_restBars_30 : decode prog_1_method_17_code 30 = .ok (.invokevirtual 194, 3) := by decide +kernel
theorem d_SR_restBars_33 : decode prog_1_method_17_code 33 = .ok (.ifCond .eq 9, 3) := by decide +kernel
theorem d_SR_restBars_36 : decode prog_1_method_17_code 36 = .ok (.iinc 3 1, 3) := by decide +kernel
theorem d_SR_restBars_39 : decode prog_1_method_17_code 39 = .ok (.goto (-35), 3) := by decide +kernel
theorem d_SR_restBars_42 : decode prog_1_method_17_code 42 = .ok (.iload_n 3, 1) := by decide +kernel
theorem d_SR_restBars_43 : decode prog_1_method_17_code 43 = .ok (.iload_n 2, 1) := by decide +kernel
theorem d_SR_restBars_44 : decode prog_1_method_17_code 44 = .ok (.isub, 1) := by decide +kernel
theorem d_SR_restBars_45 : decode prog_1_method_17_code 45 = .ok (.ireturn, 1) := by decide +kernel
