/-! decode rows, by program (wip/lay.py) -/
theorem d_Mo_init_0 : decode prog_12_method_1_code 0 = .ok (.aload_n 0, 1) := by decide +kernel
theorem d_Mo_init_1 : decode prog_12_method_1_code 1 = .ok (.invokespecial 1, 3) := by decide +kernel
theorem d_Mo_init_4 : decode prog_12_method_1_code 4 = .ok (.aload_n 0, 1) := by decide +kernel
theorem d_Mo_init_5 : decode prog_12_method_1_code 5 = .ok (.bipush 10, 2) := by decide +kernel
theorem d_Mo_init_7 : decode prog_12_method_1_code 7 = .ok (.newarray .int, 2) := by decide +kernel
theorem d_Mo_init_9 : decode prog_12_method_1_code 9 = .ok (.dup, 1) := by decide +kernel
theorem d_Mo_init_10 : decode prog_12_method_1_code 10 = .ok (.iconst 0, 1) := by decide +kernel
theorem d_Mo_init_11 : decode prog_12_method_1_code 11 = .ok (.iconst 1, 1) := by decide +kernel
theorem d_Mo_init_12 : decode prog_12_method_1_code 12 = .ok (.iastore, 1) := by decide +kernel
theorem d_Mo_init_13 : decode prog_12_method_1_code 13 = .ok (.dup, 1) := by decide +kernel
theorem d_Mo_init_14 : decode prog_12_method_1_code 14 = .ok (.iconst 1, 1) := by decide +kernel
theorem d_Mo_init_15 : decode prog_12_method_1_code 15 = .ok (.iconst 4, 1) := by decide +kernel
theorem d_Mo_init_16 : decode prog_12_method_1_code 16 = .ok (.iastore, 1) := by decide +kernel
theorem d_Mo_init_17 : decode prog_12_method_1_code 17 = .ok (.dup, 1) := by decide +kernel
theorem d_Mo_init_18 : decode prog_12_method_1_code 18 = .ok (.iconst 2, 1) := by decide +kernel
theorem d_Mo_init_19 : decode prog_12_method_1_code 19 = .ok (.bipush 15, 2) := by decide +kernel
theorem d_Mo_init_21 : decode prog_12_method_1_code 21 = .ok (.iastore, 1) := by decide +kernel
theorem d_Mo_init_22 : decode prog_12_method_1_code 22 = .ok (.dup, 1) := by decide +kernel
theorem d_Mo_init_23 : decode prog_12_method_1_code 23 = .ok (.iconst 3, 1) := by decide +kernel
theorem d_Mo_init_24 : decode prog_12_method_1_code 24 = .ok (.iconst 1, 1) := by decide +kernel
theorem d_Mo_init_25 : decode prog_12_method_1_code 25 = .ok (.iastore, 1) := by decide +kernel
theorem d_Mo_init_26 : decode prog_12_method_1_code 26 = .ok (.dup, 1) := by decide +kernel
theorem d_Mo_init_27 : decode prog_12_method_1_code 27 = .ok (.iconst 4, 1) := by decide +kernel
theorem d_Mo_init_28 : decode prog_12_method_1_code 28 = .ok (.iconst 1, 1) := by decide +kernel
theorem d_Mo_init_29 : decode prog_12_method_1_code 29 = .ok (.iastore, 1) := by decide +kernel
theorem d_Mo_init_30 : decode prog_12_method_1_code 30 = .ok (.dup, 1) := by decide +kernel
theorem d_Mo_init_31 : decode prog_12_method_1_code 31 = .ok (.iconst 5, 1) := by decide +kernel
theorem d_Mo_init_32 : decode prog_12_method_1_code 32 = .ok (.iconst 1, 1) := by decide +kernel
theorem d_Mo_init_33 : decode prog_12_method_1_code 33 = .ok (.iastore, 1) := by decide +kernel
theorem d_Mo_init_34 : decode prog_12_method_1_code 34 = .ok (.dup, 1) := by decide +kernel
theorem d_Mo_init_35 : decode prog_12_method_1_code 35 = .ok (.bipush 6, 2) := by decide +kernel
theorem d_Mo_init_37 : decode prog_12_method_1_code 37 = .ok (.iconst 1, 1) := by decide +kernel
theorem d_Mo_init_38 : decode prog_12_method_1_code 38 = .ok (.iastore, 1) := by decide +kernel
theorem d_Mo_init_39 : decode prog_12_method_1_code 39 = .ok (.dup, 1) := by decide +kernel
theorem d_Mo_init_40 : decode prog_12_method_1_code 40 = .ok (.bipush 7, 2) := by decide +kernel
theorem d_Mo_init_42 : decode prog_12_method_1_code 42 = .ok (.bipush 12, 2) := by decide +kernel
theorem d_Mo_init_44 : decode prog_12_method_1_code 44 = .ok (.iastore, 1) := by decide +kernel
theorem d_Mo_init_45 : decode prog_12_method_1_code 45 = .ok (.dup, 1) := by decide +kernel
theorem d_Mo_init_46 : decode prog_12_method_1_code 46 = .ok (.bipush 8, 2) := by decide +kernel
theorem d_Mo_init_48 : decode prog_12_method_1_code 48 = .ok (.iconst 1, 1) := by decide +kernel
theorem d_Mo_init_49 : decode prog_12_method_1_code 49 = .ok (.iastore, 1) := by decide +kernel
theorem d_Mo_init_50 : decode prog_12_method_1_code 50 = .ok (.dup, 1) := by decide +kernel
theorem d_Mo_init_51 : decode prog_12_method_1_code 51 = .ok (.bipush 9, 2) := by decide +kernel
theorem d_Mo_init_53 : decode prog_12_method_1_code 53 = .ok (.iconst 1, 1) := by decide +kernel
theorem d_Mo_init_54 : decode prog_12_method_1_code 54 = .ok (.iastore, 1) := by decide +kernel
theorem d_Mo_init_55 : decode prog_12_method_1_code 55 = .ok (.putfield 7, 3) := by decide +kernel
theorem d_Mo_init_58 : decode prog_12_method_1_code 58 = .ok (.aload_n 0, 1) := by decide +kernel
theorem d_Mo_init_59 : decode prog_12_method_1_code 59 = .ok (.bipush 20, 2) := by decide +kernel
theorem d_Mo_init_61 : decode prog_12_method_1_code 61 = .ok (.newarray .int, 2) := by decide +kernel
theorem d_Mo_init_63 : decode prog_12_method_1_code 63 = .ok (.putfield 13, 3) := by decide +kernel
theorem d_Mo_init_66 : decode prog_12_method_1_code 66 = .ok (.aload_n 0, 1) := by decide +kernel
theorem d_Mo_init_67 : decode prog_12_method_1_code 67 = .ok (.bipush 20, 2) := by decide +kernel
theorem d_Mo_init_69 : decode prog_12_method_1_code 69 = .ok (.newarray .int, 2) := by decide +kernel
theorem d_Mo_init_71 : decode prog_12_method_1_code 71 = .ok (.putfield 16, 3) := by decide +kernel
theorem d_Mo_init_74 : decode prog_12_method_1_code 74 = .ok (.aload_n 0, 1) := by decide +kernel
theorem d_Mo_init_75 : decode prog_12_method_1_code 75 = .ok (.sipush 200, 3) := by decide +kernel
theorem d_Mo_init_78 : decode prog_12_method_1_code 78 = .ok (.newarray .int, 2) := by decide +kernel
theorem d_Mo_init_80 : decode prog_12_method_1_code 80 = .ok (.putfield 19, 3) := by decide +kernel
theorem d_Mo_init_83 : decode prog_12_method_1_code 83 = .ok (.aload_n 0, 1) := by decide +kernel
theorem d_Mo_init_84 : decode prog_12_method_1_code 84 = .ok (.bipush 40, 2) := by decide +kernel
theorem d_Mo_init_86 : decode prog_12_method_1_code 86 = .ok (.newarray .int, 2) := by decide +kernel
theorem d_Mo_init_88 : decode prog_12_method_1_code 88 = .ok (.putfield 22, 3) := by decide +kernel
theorem d_Mo_init_91 : decode prog_12_method_1_code 91 = .ok (.aload_n 0, 1) := by decide +kernel
theorem d_Mo_init_92 : decode prog_12_method_1_code 92 = .ok (.bipush 40, 2) := by decide +kernel
theorem d_Mo_init_94 : decode prog_12_method_1_code 94 = .ok (.newarray .int, 2) := by decide +kernel
theorem d_Mo_init_96 : decode prog_12_method_1_code 96 = .ok (.putfield 25, 3) := by decide +kernel
theorem d_Mo_init_99 : decode prog_12_method_1_code 99 = .ok (.aload_n 0, 1) := by decide +kernel
theorem d_Mo_init_100 : decode prog_12_method_1_code 100 = .ok (.bipush 40, 2) := by decide +kernel
theorem d_Mo_init_102 : decode prog_12_method_1_code 102 = .ok (.newarray .int, 2) := by decide +kernel
theorem d_Mo_init_104 : decode prog_12_method_1_code 104 = .ok (.putfield 28, 3) := by decide +kernel
theorem d_Mo_init_107 : decode prog_12_method_1_code 107 = .ok (.aload_n 0, 1) := by decide +kernel
theorem d_Mo_init_108 : decode prog_12_method_1_code 108 = .ok (.bipush 40, 2) := by decide +kernel
theorem d_Mo_init_110 : decode prog_12_method_1_code 110 = .ok (.newarray .int, 2) := by decide +kernel
theorem d_Mo_init_112 : decode prog_12_method_1_code 112 = .ok (.putfield 31, 3) := by decide +kernel
theorem d_Mo_init_115 : decode prog_12_method_1_code 115 = .ok (.aload_n 0, 1) := by decide +kernel
theorem d_Mo_init_116 : decode prog_12_method_1_code 116 = .ok (.bipush 40, 2) := by decide +kernel
theorem d_Mo_init_118 : decode prog_12_method_1_code 118 = .ok (.newarray .int, 2) := by decide +kernel
theorem d_Mo_init_120 : decode prog_12_method_1_code 120 = .ok (.putfield 34, 3) := by decide +kernel
theorem d_Mo_init_123 : decode prog_12_method_1_code 123 = .ok (.aload_n 0, 1) := by decide +kernel
theorem d_Mo_init_124 : decode prog_12_method_1_code 124 = .ok (.bipush 40, 2) := by decide +kernel
theorem d_Mo_init_126 : decode prog_12_method_1_code 126 = .ok (.newarray .boolean, 2) := by decide +kernel
theorem d_Mo_init_128 : decode prog_12_method_1_code 128 = .ok (.putfield 37, 3) := by decide +kernel
theorem d_Mo_init_131 : decode prog_12_method_1_code 131 = .ok (.aload_n 0, 1) := by decide +kernel
theorem d_Mo_init_132 : decode prog_12_method_1_code 132 = .ok (.bipush 20, 2) := by decide +kernel
theorem d_Mo_init_134 : decode prog_12_method_1_code 134 = .ok (.newarray .int, 2) := by decide +kernel
theorem d_Mo_init_136 : decode prog_12_method_1_code 136 = .ok (.putfield 41, 3) := by decide +kernel
theorem d_Mo_init_139 : decode prog_12_method_1_code 139 = .ok (.aload_n 0, 1) := by decide +kernel
theorem d_Mo_init_140 : decode prog_12_method_1_code 140 = .ok (.bipush 20, 2) := by decide +kernel
theorem d_Mo_init_142 : decode prog_12_method_1_code 142 = .ok (.newarray .int, 2) := by decide +kernel
theorem d_Mo_init_144 : decode prog_12_method_1_code 144 = .ok (.putfield 44, 3) := by decide +kernel
theorem d_Mo_init_147 : decode prog_12_method_1_code 147 = .ok (.aload_n 0, 1) := by decide +kernel
theorem d_Mo_init_148 : decode prog_12_method_1_code 148 = .ok (.bipush 20, 2) := by decide +kernel
theorem d_Mo_init_150 : decode prog_12_method_1_code 150 = .ok (.newarray .int, 2) := by decide +kernel
theorem d_Mo_init_152 : decode prog_12_method_1_code 152 = .ok (.putfield 47, 3) := by decide +kernel
theorem d_Mo_init_155 : decode prog_12_method_1_code 155 = .ok (.aload_n 0, 1) := by decide +kernel
theorem d_Mo_init_156 : decode prog_12_method_1_code 156 = .ok (.bipush 20, 2) := by decide +kernel
theorem d_Mo_init_158 : decode prog_12_method_1_code 158 = .ok (.newarray .int, 2) := by decide +kernel
theorem d_Mo_init_160 : decode prog_12_method_1_code 160 = .ok (.putfield 50, 3) := by decide +kernel
theorem d_Mo_init_163 : decode prog_12_method_1_code 163 = .ok (.aload_n 0, 1) := by decide +kernel
theorem d_Mo_init_164 : decode prog_12_method_1_code 164 = .ok (.bipush 20, 2) := by decide +kernel
theorem d_Mo_init_166 : decode prog_12_method_1_code 166 = .ok (.newarray .int, 2) := by decide +kernel
theorem d_Mo_init_168 : decode prog_12_method_1_code 168 = .ok (.putfield 53, 3) := by decide +kernel
theorem d_Mo_init_171 : decode prog_12_method_1_code 171 = .ok (.aload_n 0, 1) := by decide +kernel
theorem d_Mo_init_172 : decode prog_12_method_1_code 172 = .ok (.sipush 400, 3) := by decide +kernel
theorem d_Mo_init_175 : decode prog_12_method_1_code 175 = .ok (.newarray .int, 2) := by decide +kernel
theorem d_Mo_init_177 : decode prog_12_method_1_code 177 = .ok (.putfield 56, 3) := by decide +kernel
theorem d_Mo_init_180 : decode prog_12_method_1_code 180 = .ok (.aload_n 0, 1) := by decide +kernel
theorem d_Mo_init_181 : decode prog_12_method_1_code 181 = .ok (.iload_n 1, 1) := by decide +kernel
theorem d_Mo_init_182 : decode prog_12_method_1_code 182 = .ok (.iconst 1, 1) := by decide +kernel
theorem d_Mo_init_183 : decode prog_12_method_1_code 183 = .ok (.if_icmp .lt 9, 3) := by decide +kernel
theorem d_Mo_init_186 : decode prog_12_method_1_code 186 = .ok (.iload_n 1, 1) := by decide +kernel
theorem d_Mo_init_187 : decode prog_12_method_1_code 187 = .ok (.bipush 20, 2) := by decide +kernel
theorem d_Mo_init_189 : decode prog_12_method_1_code 189 = .ok (.if_icmp .le 8, 3) := by decide +kernel
theorem d_Mo_init_192 : decode prog_12_method_1_code 192 = .ok (.bipush 12, 2) := by decide +kernel
theorem d_Mo_init_194 : decode prog_12_method_1_code 194 = .ok (.goto 4, 3) := by decide +kernel
theorem d_Mo_init_197 : decode prog_12_method_1_code 197 = .ok (.iload_n 1, 1) := by decide +kernel
theorem d_Mo_init_198 : decode prog_12_method_1_code 198 = .ok (.putfield 59, 3) := by decide +kernel
theorem d_Mo_init_201 : decode prog_12_method_1_code 201 = .ok (.iconst 0, 1) := by decide +kernel
theorem d_Mo_init_202 : decode prog_12_method_1_code 202 = .ok (.istore_n 2, 1) := by decide +kernel
theorem d_Mo_init_203 : decode prog_12_method_1_code 203 = .ok (.iload_n 2, 1) := by decide +kernel
theorem d_Mo_init_204 : decode prog_12_method_1_code 204 = .ok (.bipush 20, 2) := by decide +kernel
theorem d_Mo_init_206 : decode prog_12_method_1_code 206 = .ok (.if_icmp .ge 25, 3) := by decide +kernel
theorem d_Mo_init_209 : decode prog_12_method_1_code 209 = .ok (.aload_n 0, 1) := by decide +kernel
theorem d_Mo_init_210 : decode prog_12_method_1_code 210 = .ok (.getfield 13, 3) := by decide +kernel
theorem d_Mo_init_213 : decode prog_12_method_1_code 213 = .ok (.iload_n 2, 1) := by decide +kernel
theorem d_Mo_init_214 : decode prog_12_method_1_code 214 = .ok (.bipush 16, 2) := by decide +kernel
theorem d_Mo_init_216 : decode prog_12_method_1_code 216 = .ok (.iastore, 1) := by decide +kernel
theorem d_Mo_init_217 : decode prog_12_method_1_code 217 = .ok (.aload_n 0, 1) := by decide +kernel
theorem d_Mo_init_218 : decode prog_12_method_1_code 218 = .ok (.getfield 16, 3) := by decide +kernel
theorem d_Mo_init_221 : decode prog_12_method_1_code 221 = .ok (.iload_n 2, 1) := by decide +kernel
theorem d_Mo_init_222 : decode prog_12_method_1_code 222 = .ok (.bipush 10, 2) := by decide +kernel
theorem d_Mo_init_224 : decode prog_12_method_1_code 224 = .ok (.iastore, 1) := by decide +kernel
theorem d_Mo_init_225 : decode prog_12_method_1_code 225 = .ok (.iinc 2 1, 3) := by decide +kernel
theorem d_Mo_init_228 : decode prog_12_method_1_code 228 = .ok (.goto (-25), 3) := by decide +kernel
theorem d_Mo_init_231 : decode prog_12_method_1_code 231 = .ok (.return_, 1) := by decide +kernel
theorem d_Mo_thrown_0 : decode prog_12_method_2_code 0 = .ok (.aload_n 0, 1) := by decide +kernel
theorem d_Mo_thrown_1 : decode prog_12_method_2_code 1 = .ok (.getfield 63, 3) := by decide +kernel
theorem d_Mo_thrown_4 : decode prog_12_method_2_code 4 = .ok (.ireturn, 1) := by decide +kernel
theorem d_Mo_bar_0 : decode prog_12_method_10_code 0 = .ok (.aload_n 0, 1) := by decide +kernel
theorem d_Mo_bar_1 : decode prog_12_method_10_code 1 = .ok (.aload_n 0, 1) := by decide +kernel
theorem d_Mo_bar_2 : decode prog_12_method_10_code 2 = .ok (.iload_n 1, 1) := by decide +kernel
theorem d_Mo_bar_3 : decode prog_12_method_10_code 3 = .ok (.invokevirtual 74, 3) := by decide +kernel
theorem d_Mo_bar_6 : decode prog_12_method_10_code 6 = .ok (.ifCond .eq 28, 3) := by decide +kernel
theorem d_Mo_bar_9 : decode prog_12_method_10_code 9 = .ok (.iload_n 2, 1) := by decide +kernel
theorem d_Mo_bar_10 : decode prog_12_method_10_code 10 = .ok (.iconst 1, 1) := by decide +kernel
theorem d_Mo_bar_11 : decode prog_12_method_10_code 11 = .ok (.bipush 32, 2) := by decide +kernel
theorem d_Mo_bar_13 : decode prog_12_method_10_code 13 = .ok (.invokestatic 66, 3) := by decide +kernel
theorem d_Mo_bar_16 : decode prog_12_method_10_code 16 = .ok (.ifCond .eq 18, 3) := by decide +kernel
theorem d_Mo_bar_19 : decode prog_12_method_10_code 19 = .ok (.iload_n 3, 1) := by decide +kernel
theorem d_Mo_bar_20 : decode prog_12_method_10_code 20 = .ok (.iconst 1, 1) := by decide +kernel
theorem d_Mo_bar_21 : decode prog_12_method_10_code 21 = .ok (.sipush 1000, 3) := by decide +kernel
theorem d_Mo_bar_24 : decode prog_12_method_10_code 24 = .ok (.invokestatic 66, 3) := by decide +kernel
theorem d_Mo_bar_27 : decode prog_12_method_10_code 27 = .ok (.ifCond .eq 7, 3) := by decide +kernel
theorem d_Mo_bar_30 : decode prog_12_method_10_code 30 = .ok (.iconst 0, 1) := by decide +kernel
theorem d_Mo_bar_31 : decode prog_12_method_10_code 31 = .ok (.goto 4, 3) := by decide +kernel
theorem d_Mo_bar_34 : decode prog_12_method_10_code 34 = .ok (.iconst 1, 1) := by decide +kernel
theorem d_Mo_bar_35 : decode prog_12_method_10_code 35 = .ok (.putfield 63, 3) := by decide +kernel
theorem d_Mo_bar_38 : decode prog_12_method_10_code 38 = .ok (.iconst 0, 1) := by decide +kernel
theorem d_Mo_bar_39 : decode prog_12_method_10_code 39 = .ok (.istore 4, 2) := by decide +kernel
theorem d_Mo_bar_41 : decode prog_12_method_10_code 41 = .ok (.iload 4, 2) := by decide +kernel
theorem d_Mo_bar_43 : decode prog_12_method_10_code 43 = .ok (.aload_n 0, 1) := by decide +kernel
theorem d_Mo_bar_44 : decode prog_12_method_10_code 44 = .ok (.getfield 78, 3) := by decide +kernel
theorem d_Mo_bar_47 : decode prog_12_method_10_code 47 = .ok (.if_icmp .ge 55, 3) := by decide +kernel
theorem d_Mo_bar_50 : decode prog_12_method_10_code 50 = .ok (.aload_n 0, 1) := by decide +kernel
theorem d_Mo_bar_51 : decode prog_12_method_10_code 51 = .ok (.getfield 63, 3) := by decide +kernel
theorem d_Mo_bar_54 : decode prog_12_method_10_code 54 = .ok (.ifCond .ne 48, 3) := by decide +kernel
theorem d_Mo_bar_57 : decode prog_12_method_10_code 57 = .ok (.aload_n 0, 1) := by decide +kernel
theorem d_Mo_bar_58 : decode prog_12_method_10_code 58 = .ok (.aload_n 0, 1) := by decide +kernel
theorem d_Mo_bar_59 : decode prog_12_method_10_code 59 = .ok (.getfield 25, 3) := by decide +kernel
theorem d_Mo_bar_62 : decode prog_12_method_10_code 62 = .ok (.iload 4, 2) := by decide +kernel
theorem d_Mo_bar_64 : decode prog_12_method_10_code 64 = .ok (.iaload, 1) := by decide +kernel
theorem d_Mo_bar_65 : decode prog_12_method_10_code 65 = .ok (.iload_n 1, 1) := by decide +kernel
theorem d_Mo_bar_66 : decode prog_12_method_10_code 66 = .ok (.if_icmp .ne 26, 3) := by decide +kernel
theorem d_Mo_bar_69 : decode prog_12_method_10_code 69 = .ok (.aload_n 0, 1) := by decide +kernel
theorem d_Mo_bar_70 : decode prog_12_method_10_code 70 = .ok (.getfield 28, 3) := by decide +kernel
theorem d_Mo_bar_73 : decode prog_12_method_10_code 73 = .ok (.iload 4, 2) := by decide +kernel
theorem d_Mo_bar_75 : decode prog_12_method_10_code 75 = .ok (.iaload, 1) := by decide +kernel
theorem d_Mo_bar_76 : decode prog_12_method_10_code 76 = .ok (.aload_n 0, 1) := by decide +kernel
theorem d_Mo_bar_77 : decode prog_12_method_10_code 77 = .ok (.getfield 31, 3) := by decide +kernel
theorem d_Mo_bar_80 : decode prog_12_method_10_code 80 = .ok (.iload 4, 2) := by decide +kernel
theorem d_Mo_bar_82 : decode prog_12_method_10_code 82 = .ok (.iaload, 1) := by decide +kernel
theorem d_Mo_bar_83 : decode prog_12_method_10_code 83 = .ok (.iadd, 1) := by decide +kernel
theorem d_Mo_bar_84 : decode prog_12_method_10_code 84 = .ok (.iload_n 2, 1) := by decide +kernel
theorem d_Mo_bar_85 : decode prog_12_method_10_code 85 = .ok (.if_icmp .le 7, 3) := by decide +kernel
theorem d_Mo_bar_88 : decode prog_12_method_10_code 88 = .ok (.iconst 2, 1) := by decide +kernel
theorem d_Mo_bar_89 : decode prog_12_method_10_code 89 = .ok (.goto 4, 3) := by decide +kernel
theorem d_Mo_bar_92 : decode prog_12_method_10_code 92 = .ok (.iconst 0, 1) := by decide +kernel
theorem d_Mo_bar_93 : decode prog_12_method_10_code 93 = .ok (.putfield 63, 3) := by decide +kernel
theorem d_Mo_bar_96 : decode prog_12_method_10_code 96 = .ok (.iinc 4 1, 3) := by decide +kernel
theorem d_Mo_bar_99 : decode prog_12_method_10_code 99 = .ok (.goto (-58), 3) := by decide +kernel
theorem d_Mo_bar_102 : decode prog_12_method_10_code 102 = .ok (.aload_n 0, 1) := by decide +kernel
theorem d_Mo_bar_103 : decode prog_12_method_10_code 103 = .ok (.getfield 63, 3) := by decide +kernel
theorem d_Mo_bar_106 : decode prog_12_method_10_code 106 = .ok (.ifCond .ne 17, 3) := by decide +kernel
theorem d_Mo_bar_109 : decode prog_12_method_10_code 109 = .ok (.aload_n 0, 1) := by decide +kernel
theorem d_Mo_bar_110 : decode prog_12_method_10_code 110 = .ok (.getfield 13, 3) := by decide +kernel
theorem d_Mo_bar_113 : decode prog_12_method_10_code 113 = .ok (.iload_n 1, 1) := by decide +kernel
theorem d_Mo_bar_114 : decode prog_12_method_10_code 114 = .ok (.iload_n 2, 1) := by decide +kernel
theorem d_Mo_bar_115 : decode prog_12_method_10_code 115 = .ok (.iastore, 1) := by decide +kernel
theorem d_Mo_bar_116 : decode prog_12_method_10_code 116 = .ok (.aload_n 0, 1) := by decide +kernel
theorem d_Mo_bar_117 : decode prog_12_method_10_code 117 = .ok (.getfield 16, 3) := by decide +kernel
theorem d_Mo_bar_120 : decode prog_12_method_10_code 120 = .ok (.iload_n 1, 1) := by decide +kernel
theorem d_Mo_bar_121 : decode prog_12_method_10_code 121 = .ok (.iload_n 3, 1) := by decide +kernel
theorem d_Mo_bar_122 : decode prog_12_method_10_code 122 = .ok (.iastore, 1) := by decide +kernel
theorem d_Mo_bar_123 : decode prog_12_method_10_code 123 = .ok (.return_, 1) := by decide +kernel
theorem d_Mo_isBar_0 : decode prog_12_method_5_code 0 = .ok (.iload_n 1, 1) := by decide +kernel
theorem d_Mo_isBar_1 : decode prog_12_method_5_code 1 = .ok (.iconst 0, 1) := by decide +kernel
theorem d_Mo_isBar_2 : decode prog_12_method_5_code 2 = .ok (.aload_n 0, 1) := by decide +kernel
theorem d_Mo_isBar_3 : decode prog_12_method_5_code 3 = .ok (.getfield 59, 3) := by decide +kernel
theorem d_Mo_isBar_6 : decode prog_12_method_5_code 6 = .ok (.iconst 1, 1) := by decide +kernel
theorem d_Mo_isBar_7 : decode prog_12_method_5_code 7 = .ok (.isub, 1) := by decide +kernel
theorem d_Mo_isBar_8 : decode prog_12_method_5_code 8 = .ok (.invokestatic 66, 3) := by decide +kernel
theorem d_Mo_isBar_11 : decode prog_12_method_5_code 11 = .ok (.ireturn, 1) := by decide +kernel
theorem d_Mo_within_0 : decode prog_12_method_4_code 0 = .ok (.iload_n 0, 1) := by decide +kernel
theorem d_Mo_within_1 : decode prog_12_method_4_code 1 = .ok (.iload_n 1, 1) := by decide +kernel
theorem d_Mo_within_2 : decode prog_12_method_4_code 2 = .ok (.if_icmp .lt 12, 3) := by decide +kernel
theorem d_Mo_within_5 : decode prog_12_method_4_code 5 = .ok (.iload_n 0, 1) := by decide +kernel
theorem d_Mo_within_6 : decode prog_12_method_4_code 6 = .ok (.iload_n 2, 1) := by decide +kernel
theorem d_Mo_within_7 : decode prog_12_method_4_code 7 = .ok (.if_icmp .gt 7, 3) := by decide +kernel
theorem d_Mo_within_10 : decode prog_12_method_4_code 10 = .ok (.iconst 1, 1) := by decide +kernel
theorem d_Mo_within_11 : decode prog_12_method_4_code 11 = .ok (.goto 4, 3) := by decide +kernel
theorem d_Mo_within_14 : decode prog_12_method_4_code 14 = .ok (.iconst 0, 1) := by decide +kernel
theorem d_Mo_within_15 : decode prog_12_method_4_code 15 = .ok (.ireturn, 1) := by decide +kernel
theorem d_Mo_sign_0 : decode prog_12_method_11_code 0 = .ok (.aload_n 0, 1) := by decide +kernel
theorem d_Mo_sign_1 : decode prog_12_method_11_code 1 = .ok (.aload_n 0, 1) := by decide +kernel
theorem d_Mo_sign_2 : decode prog_12_method_11_code 2 = .ok (.iload_n 1, 1) := by decide +kernel
theorem d_Mo_sign_3 : decode prog_12_method_11_code 3 = .ok (.invokevirtual 74, 3) := by decide +kernel
theorem d_Mo_sign_6 : decode prog_12_method_11_code 6 = .ok (.ifCond .eq 17, 3) := by decide +kernel
theorem d_Mo_sign_9 : decode prog_12_method_11_code 9 = .ok (.iload_n 2, 1) := by decide +kernel
theorem d_Mo_sign_10 : decode prog_12_method_11_code 10 = .ok (.iconst 0, 1) := by decide +kernel
theorem d_Mo_sign_11 : decode prog_12_method_11_code 11 = .ok (.bipush 9, 2) := by decide +kernel
theorem d_Mo_sign_13 : decode prog_12_method_11_code 13 = .ok (.invokestatic 66, 3) := by decide +kernel
theorem d_Mo_sign_16 : decode prog_12_method_11_code 16 = .ok (.ifCond .eq 7, 3) := by decide +kernel
theorem d_Mo_sign_19 : decode prog_12_method_11_code 19 = .ok (.iconst 0, 1) := by decide +kernel
theorem d_Mo_sign_20 : decode prog_12_method_11_code 20 = .ok (.goto 4, 3) := by decide +kernel
theorem d_Mo_sign_23 : decode prog_12_method_11_code 23 = .ok (.iconst 1, 1) := by decide +kernel
theorem d_Mo_sign_24 : decode prog_12_method_11_code 24 = .ok (.putfield 63, 3) := by decide +kernel
theorem d_Mo_sign_27 : decode prog_12_method_11_code 27 = .ok (.aload_n 0, 1) := by decide +kernel
theorem d_Mo_sign_28 : decode prog_12_method_11_code 28 = .ok (.getfield 63, 3) := by decide +kernel
theorem d_Mo_sign_31 : decode prog_12_method_11_code 31 = .ok (.ifCond .le 5, 3) := by decide +kernel
theorem d_Mo_sign_34 : decode prog_12_method_11_code 34 = .ok (.iconst 0, 1) := by decide +kernel
theorem d_Mo_sign_35 : decode prog_12_method_11_code 35 = .ok (.ireturn, 1) := by decide +kernel
theorem d_Mo_sign_36 : decode prog_12_method_11_code 36 = .ok (.iload_n 2, 1) := by decide +kernel
theorem d_Mo_sign_37 : decode prog_12_method_11_code 37 = .ok (.iconst 1, 1) := by decide +kernel
theorem d_Mo_sign_38 : decode prog_12_method_11_code 38 = .ok (.if_icmp .ne 7, 3) := by decide +kernel
theorem d_Mo_sign_41 : decode prog_12_method_11_code 41 = .ok (.iconst 2, 1) := by decide +kernel
theorem d_Mo_sign_42 : decode prog_12_method_11_code 42 = .ok (.goto 4, 3) := by decide +kernel
theorem d_Mo_sign_45 : decode prog_12_method_11_code 45 = .ok (.iconst 1, 1) := by decide +kernel
theorem d_Mo_sign_46 : decode prog_12_method_11_code 46 = .ok (.istore 4, 2) := by decide +kernel
theorem d_Mo_sign_48 : decode prog_12_method_11_code 48 = .ok (.iload_n 3, 1) := by decide +kernel
theorem d_Mo_sign_49 : decode prog_12_method_11_code 49 = .ok (.ifCond .eq 25, 3) := by decide +kernel
theorem d_Mo_sign_52 : decode prog_12_method_11_code 52 = .ok (.iload_n 3, 1) := by decide +kernel
theorem d_Mo_sign_53 : decode prog_12_method_11_code 53 = .ok (.iload 4, 2) := by decide +kernel
theorem d_Mo_sign_55 : decode prog_12_method_11_code 55 = .ok (.aload_n 0, 1) := by decide +kernel
theorem d_Mo_sign_56 : decode prog_12_method_11_code 56 = .ok (.getfield 7, 3) := by decide +kernel
theorem d_Mo_sign_59 : decode prog_12_method_11_code 59 = .ok (.iload_n 2, 1) := by decide +kernel
theorem d_Mo_sign_60 : decode prog_12_method_11_code 60 = .ok (.iaload, 1) := by decide +kernel
theorem d_Mo_sign_61 : decode prog_12_method_11_code 61 = .ok (.invokestatic 66, 3) := by decide +kernel
theorem d_Mo_sign_64 : decode prog_12_method_11_code 64 = .ok (.ifCond .ne 10, 3) := by decide +kernel
theorem d_Mo_sign_67 : decode prog_12_method_11_code 67 = .ok (.aload_n 0, 1) := by decide +kernel
theorem d_Mo_sign_68 : decode prog_12_method_11_code 68 = .ok (.iconst 1, 1) := by decide +kernel
theorem d_Mo_sign_69 : decode prog_12_method_11_code 69 = .ok (.putfield 63, 3) := by decide +kernel
theorem d_Mo_sign_72 : decode prog_12_method_11_code 72 = .ok (.iconst 0, 1) := by decide +kernel
theorem d_Mo_sign_73 : decode prog_12_method_11_code 73 = .ok (.ireturn, 1) := by decide +kernel
theorem d_Mo_sign_74 : decode prog_12_method_11_code 74 = .ok (.aload_n 0, 1) := by decide +kernel
theorem d_Mo_sign_75 : decode prog_12_method_11_code 75 = .ok (.getfield 19, 3) := by decide +kernel
theorem d_Mo_sign_78 : decode prog_12_method_11_code 78 = .ok (.bipush 10, 2) := by decide +kernel
theorem d_Mo_sign_80 : decode prog_12_method_11_code 80 = .ok (.iload_n 1, 1) := by decide +kernel
theorem d_Mo_sign_81 : decode prog_12_method_11_code 81 = .ok (.imul, 1) := by decide +kernel
theorem d_Mo_sign_82 : decode prog_12_method_11_code 82 = .ok (.iload_n 2, 1) := by decide +kernel
theorem d_Mo_sign_83 : decode prog_12_method_11_code 83 = .ok (.iadd, 1) := by decide +kernel
theorem d_Mo_sign_84 : decode prog_12_method_11_code 84 = .ok (.iaload, 1) := by decide +kernel
theorem d_Mo_sign_85 : decode prog_12_method_11_code 85 = .ok (.istore 5, 2) := by decide +kernel
theorem d_Mo_sign_87 : decode prog_12_method_11_code 87 = .ok (.iload 5, 2) := by decide +kernel
theorem d_Mo_sign_89 : decode prog_12_method_11_code 89 = .ok (.iload_n 3, 1) := by decide +kernel
theorem d_Mo_sign_90 : decode prog_12_method_11_code 90 = .ok (.if_icmp .ne 5, 3) := by decide +kernel
theorem d_Mo_sign_93 : decode prog_12_method_11_code 93 = .ok (.iconst 0, 1) := by decide +kernel
theorem d_Mo_sign_94 : decode prog_12_method_11_code 94 = .ok (.ireturn, 1) := by decide +kernel
theorem d_Mo_sign_95 : decode prog_12_method_11_code 95 = .ok (.iload 5, 2) := by decide +kernel
theorem d_Mo_sign_97 : decode prog_12_method_11_code 97 = .ok (.ifCond .le 14, 3) := by decide +kernel
theorem d_Mo_sign_100 : decode prog_12_method_11_code 100 = .ok (.iload_n 3, 1) := by decide +kernel
theorem d_Mo_sign_101 : decode prog_12_method_11_code 101 = .ok (.ifCond .le 10, 3) := by decide +kernel
theorem d_Mo_sign_104 : decode prog_12_method_11_code 104 = .ok (.aload_n 0, 1) := by decide +kernel
theorem d_Mo_sign_105 : decode prog_12_method_11_code 105 = .ok (.iconst 2, 1) := by decide +kernel
theorem d_Mo_sign_106 : decode prog_12_method_11_code 106 = .ok (.putfield 63, 3) := by decide +kernel
theorem d_Mo_sign_109 : decode prog_12_method_11_code 109 = .ok (.iconst 0, 1) := by decide +kernel
theorem d_Mo_sign_110 : decode prog_12_method_11_code 110 = .ok (.ireturn, 1) := by decide +kernel
theorem d_Mo_sign_111 : decode prog_12_method_11_code 111 = .ok (.aload_n 0, 1) := by decide +kernel
theorem d_Mo_sign_112 : decode prog_12_method_11_code 112 = .ok (.getfield 19, 3) := by decide +kernel
theorem d_Mo_sign_115 : decode prog_12_method_11_code 115 = .ok (.bipush 10, 2) := by decide +kernel
theorem d_Mo_sign_117 : decode prog_12_method_11_code 117 = .ok (.iload_n 1, 1) := by decide +kernel
theorem d_Mo_sign_118 : decode prog_12_method_11_code 118 = .ok (.imul, 1) := by decide +kernel
theorem d_Mo_sign_119 : decode prog_12_method_11_code 119 = .ok (.iload_n 2, 1) := by decide +kernel
theorem d_Mo_sign_120 : decode prog_12_method_11_code 120 = .ok (.iadd, 1) := by decide +kernel
theorem d_Mo_sign_121 : decode prog_12_method_11_code 121 = .ok (.iload_n 3, 1) := by decide +kernel
theorem d_Mo_sign_122 : decode prog_12_method_11_code 122 = .ok (.iastore, 1) := by decide +kernel
theorem d_Mo_sign_123 : decode prog_12_method_11_code 123 = .ok (.iconst 1, 1) := by decide +kernel
theorem d_Mo_sign_124 : decode prog_12_method_11_code 124 = .ok (.ireturn, 1) := by decide +kernel
theorem d_Mo_signAt_0 : decode prog_12_method_12_code 0 = .ok (.aload_n 0, 1) := by decide +kernel
theorem d_Mo_signAt_1 : decode prog_12_method_12_code 1 = .ok (.iconst 0, 1) := by decide +kernel
theorem d_Mo_signAt_2 : decode prog_12_method_12_code 2 = .ok (.putfield 63, 3) := by decide +kernel
theorem d_Mo_signAt_5 : decode prog_12_method_12_code 5 = .ok (.aload_n 0, 1) := by decide +kernel
theorem d_Mo_signAt_6 : decode prog_12_method_12_code 6 = .ok (.iload_n 1, 1) := by decide +kernel
theorem d_Mo_signAt_7 : decode prog_12_method_12_code 7 = .ok (.invokevirtual 74, 3) := by decide +kernel
theorem d_Mo_signAt_10 : decode prog_12_method_12_code 10 = .ok (.ifCond .eq 27, 3) := by decide +kernel
theorem d_Mo_signAt_13 : decode prog_12_method_12_code 13 = .ok (.iload_n 2, 1) := by decide +kernel
theorem d_Mo_signAt_14 : decode prog_12_method_12_code 14 = .ok (.iconst 0, 1) := by decide +kernel
theorem d_Mo_signAt_15 : decode prog_12_method_12_code 15 = .ok (.bipush 9, 2) := by decide +kernel
theorem d_Mo_signAt_17 : decode prog_12_method_12_code 17 = .ok (.invokestatic 66, 3) := by decide +kernel
theorem d_Mo_signAt_20 : decode prog_12_method_12_code 20 = .ok (.ifCond .eq 17, 3) := by decide +kernel
theorem d_Mo_signAt_23 : decode prog_12_method_12_code 23 = .ok (.aload_n 0, 1) := by decide +kernel
theorem d_Mo_signAt_24 : decode prog_12_method_12_code 24 = .ok (.getfield 19, 3) := by decide +kernel
theorem d_Mo_signAt_27 : decode prog_12_method_12_code 27 = .ok (.bipush 10, 2) := by decide +kernel
theorem d_Mo_signAt_29 : decode prog_12_method_12_code 29 = .ok (.iload_n 1, 1) := by decide +kernel
theorem d_Mo_signAt_30 : decode prog_12_method_12_code 30 = .ok (.imul, 1) := by decide +kernel
theorem d_Mo_signAt_31 : decode prog_12_method_12_code 31 = .ok (.iload_n 2, 1) := by decide +kernel
theorem d_Mo_signAt_32 : decode prog_12_method_12_code 32 = .ok (.iadd, 1) := by decide +kernel
theorem d_Mo_signAt_33 : decode prog_12_method_12_code 33 = .ok (.iaload, 1) := by decide +kernel
theorem d_Mo_signAt_34 : decode prog_12_method_12_code 34 = .ok (.goto 4, 3) := by decide +kernel
theorem d_Mo_signAt_37 : decode prog_12_method_12_code 37 = .ok (.iconst 0, 1) := by decide +kernel
theorem d_Mo_signAt_38 : decode prog_12_method_12_code 38 = .ok (.ireturn, 1) := by decide +kernel
theorem d_Mo_note_0 : decode prog_12_method_13_code 0 = .ok (.aload_n 0, 1) := by decide +kernel
theorem d_Mo_note_1 : decode prog_12_method_13_code 1 = .ok (.iconst 0, 1) := by decide +kernel
theorem d_Mo_note_2 : decode prog_12_method_13_code 2 = .ok (.putfield 63, 3) := by decide +kernel
theorem d_Mo_note_5 : decode prog_12_method_13_code 5 = .ok (.iload_n 1, 1) := by decide +kernel
theorem d_Mo_note_6 : decode prog_12_method_13_code 6 = .ok (.invokestatic 81, 3) := by decide +kernel
theorem d_Mo_note_9 : decode prog_12_method_13_code 9 = .ok (.ifCond .eq 36, 3) := by decide +kernel
theorem d_Mo_note_12 : decode prog_12_method_13_code 12 = .ok (.aload_n 0, 1) := by decide +kernel
theorem d_Mo_note_13 : decode prog_12_method_13_code 13 = .ok (.iload_n 2, 1) := by decide +kernel
theorem d_Mo_note_14 : decode prog_12_method_13_code 14 = .ok (.invokevirtual 74, 3) := by decide +kernel
theorem d_Mo_note_17 : decode prog_12_method_13_code 17 = .ok (.ifCond .eq 28, 3) := by decide +kernel
theorem d_Mo_note_20 : decode prog_12_method_13_code 20 = .ok (.iload 5, 2) := by decide +kernel
theorem d_Mo_note_22 : decode prog_12_method_13_code 22 = .ok (.iconst 0, 1) := by decide +kernel
theorem d_Mo_note_23 : decode prog_12_method_13_code 23 = .ok (.bipush 127, 2) := by decide +kernel
theorem d_Mo_note_25 : decode prog_12_method_13_code 25 = .ok (.invokestatic 66, 3) := by decide +kernel
theorem d_Mo_note_28 : decode prog_12_method_13_code 28 = .ok (.ifCond .eq 17, 3) := by decide +kernel
theorem d_Mo_note_31 : decode prog_12_method_13_code 31 = .ok (.iload_n 3, 1) := by decide +kernel
theorem d_Mo_note_32 : decode prog_12_method_13_code 32 = .ok (.ifCond .lt 13, 3) := by decide +kernel
theorem d_Mo_note_35 : decode prog_12_method_13_code 35 = .ok (.iload 4, 2) := by decide +kernel
theorem d_Mo_note_37 : decode prog_12_method_13_code 37 = .ok (.iconst 1, 1) := by decide +kernel
theorem d_Mo_note_38 : decode prog_12_method_13_code 38 = .ok (.if_icmp .lt 7, 3) := by decide +kernel
theorem d_Mo_note_41 : decode prog_12_method_13_code 41 = .ok (.iconst 1, 1) := by decide +kernel
theorem d_Mo_note_42 : decode prog_12_method_13_code 42 = .ok (.goto 4, 3) := by decide +kernel
theorem d_Mo_note_45 : decode prog_12_method_13_code 45 = .ok (.iconst 0, 1) := by decide +kernel
theorem d_Mo_note_46 : decode prog_12_method_13_code 46 = .ok (.istore 7, 2) := by decide +kernel
theorem d_Mo_note_48 : decode prog_12_method_13_code 48 = .ok (.iload 7, 2) := by decide +kernel
theorem d_Mo_note_50 : decode prog_12_method_13_code 50 = .ok (.ifCond .eq 26, 3) := by decide +kernel
theorem d_Mo_note_53 : decode prog_12_method_13_code 53 = .ok (.iload_n 3, 1) := by decide +kernel
theorem d_Mo_note_54 : decode prog_12_method_13_code 54 = .ok (.aload_n 0, 1) := by decide +kernel
theorem d_Mo_note_55 : decode prog_12_method_13_code 55 = .ok (.getfield 13, 3) := by decide +kernel
theorem d_Mo_note_58 : decode prog_12_method_13_code 58 = .ok (.iload_n 2, 1) := by decide +kernel
theorem d_Mo_note_59 : decode prog_12_method_13_code 59 = .ok (.iaload, 1) := by decide +kernel
theorem d_Mo_note_60 : decode prog_12_method_13_code 60 = .ok (.if_icmp .ge 16, 3) := by decide +kernel
theorem d_Mo_note_63 : decode prog_12_method_13_code 63 = .ok (.iload 4, 2) := by decide +kernel
theorem d_Mo_note_65 : decode prog_12_method_13_code 65 = .ok (.aload_n 0, 1) := by decide +kernel
theorem d_Mo_note_66 : decode prog_12_method_13_code 66 = .ok (.getfield 13, 3) := by decide +kernel
theorem d_Mo_note_69 : decode prog_12_method_13_code 69 = .ok (.iload_n 2, 1) := by decide +kernel
theorem d_Mo_note_70 : decode prog_12_method_13_code 70 = .ok (.iaload, 1) := by decide +kernel
theorem d_Mo_note_71 : decode prog_12_method_13_code 71 = .ok (.iload_n 3, 1) := by decide +kernel
theorem d_Mo_note_72 : decode prog_12_method_13_code 72 = .ok (.isub, 1) := by decide +kernel
theorem d_Mo_note_73 : decode prog_12_method_13_code 73 = .ok (.if_icmp .le 9, 3) := by decide +kernel
theorem d_Mo_note_76 : decode prog_12_method_13_code 76 = .ok (.aload_n 0, 1) := by decide +kernel
theorem d_Mo_note_77 : decode prog_12_method_13_code 77 = .ok (.iconst 1, 1) := by decide +kernel
theorem d_Mo_note_78 : decode prog_12_method_13_code 78 = .ok (.invokevirtual 84, 3) := by decide +kernel
theorem d_Mo_note_81 : decode prog_12_method_13_code 81 = .ok (.ireturn, 1) := by decide +kernel
theorem d_Mo_note_82 : decode prog_12_method_13_code 82 = .ok (.aload_n 0, 1) := by decide +kernel
theorem d_Mo_note_83 : decode prog_12_method_13_code 83 = .ok (.getfield 78, 3) := by decide +kernel
theorem d_Mo_note_86 : decode prog_12_method_13_code 86 = .ok (.bipush 40, 2) := by decide +kernel
theorem d_Mo_note_88 : decode prog_12_method_13_code 88 = .ok (.if_icmp .ne 7, 3) := by decide +kernel
theorem d_Mo_note_91 : decode prog_12_method_13_code 91 = .ok (.iconst 1, 1) := by decide +kernel
theorem d_Mo_note_92 : decode prog_12_method_13_code 92 = .ok (.goto 4, 3) := by decide +kernel
theorem d_Mo_note_95 : decode prog_12_method_13_code 95 = .ok (.iconst 0, 1) := by decide +kernel
theorem d_Mo_note_96 : decode prog_12_method_13_code 96 = .ok (.istore 8, 2) := by decide +kernel
theorem d_Mo_note_98 : decode prog_12_method_13_code 98 = .ok (.iconst 0, 1) := by decide +kernel
theorem d_Mo_note_99 : decode prog_12_method_13_code 99 = .ok (.istore 9, 2) := by decide +kernel
theorem d_Mo_note_101 : decode prog_12_method_13_code 101 = .ok (.iload 9, 2) := by decide +kernel
theorem d_Mo_note_103 : decode prog_12_method_13_code 103 = .ok (.aload_n 0, 1) := by decide +kernel
theorem d_Mo_note_104 : decode prog_12_method_13_code 104 = .ok (.getfield 78, 3) := by decide +kernel
theorem d_Mo_note_107 : decode prog_12_method_13_code 107 = .ok (.if_icmp .ge 66, 3) := by decide +kernel
theorem d_Mo_note_110 : decode prog_12_method_13_code 110 = .ok (.iload 8, 2) := by decide +kernel
theorem d_Mo_note_112 : decode prog_12_method_13_code 112 = .ok (.ifCond .ne 48, 3) := by decide +kernel
theorem d_Mo_note_115 : decode prog_12_method_13_code 115 = .ok (.aload_n 0, 1) := by decide +kernel
theorem d_Mo_note_116 : decode prog_12_method_13_code 116 = .ok (.getfield 22, 3) := by decide +kernel
theorem d_Mo_note_119 : decode prog_12_method_13_code 119 = .ok (.iload 9, 2) := by decide +kernel
theorem d_Mo_note_121 : decode prog_12_method_13_code 121 = .ok (.iaload, 1) := by decide +kernel
theorem d_Mo_note_122 : decode prog_12_method_13_code 122 = .ok (.iload_n 1, 1) := by decide +kernel
theorem d_Mo_note_123 : decode prog_12_method_13_code 123 = .ok (.if_icmp .ne 41, 3) := by decide +kernel
theorem d_Mo_note_126 : decode prog_12_method_13_code 126 = .ok (.aload_n 0, 1) := by decide +kernel
theorem d_Mo_note_127 : decode prog_12_method_13_code 127 = .ok (.getfield 25, 3) := by decide +kernel
theorem d_Mo_note_130 : decode prog_12_method_13_code 130 = .ok (.iload 9, 2) := by decide +kernel
theorem d_Mo_note_132 : decode prog_12_method_13_code 132 = .ok (.iaload, 1) := by decide +kernel
theorem d_Mo_note_133 : decode prog_12_method_13_code 133 = .ok (.iload_n 2, 1) := by decide +kernel
theorem d_Mo_note_134 : decode prog_12_method_13_code 134 = .ok (.if_icmp .ne 30, 3) := by decide +kernel
theorem d_Mo_note_137 : decode prog_12_method_13_code 137 = .ok (.aload_n 0, 1) := by decide +kernel
theorem d_Mo_note_138 : decode prog_12_method_13_code 138 = .ok (.getfield 28, 3) := by decide +kernel
theorem d_Mo_note_141 : decode prog_12_method_13_code 141 = .ok (.iload 9, 2) := by decide +kernel
theorem d_Mo_note_143 : decode prog_12_method_13_code 143 = .ok (.iaload, 1) := by decide +kernel
theorem d_Mo_note_144 : decode prog_12_method_13_code 144 = .ok (.iload_n 3, 1) := by decide +kernel
theorem d_Mo_note_145 : decode prog_12_method_13_code 145 = .ok (.if_icmp .ne 19, 3) := by decide +kernel
theorem d_Mo_note_148 : decode prog_12_method_13_code 148 = .ok (.aload_n 0, 1) := by decide +kernel
theorem d_Mo_note_149 : decode prog_12_method_13_code 149 = .ok (.getfield 34, 3) := by decide +kernel
theorem d_Mo_note_152 : decode prog_12_method_13_code 152 = .ok (.iload 9, 2) := by decide +kernel
theorem d_Mo_note_154 : decode prog_12_method_13_code 154 = .ok (.iaload, 1) := by decide +kernel
theorem d_Mo_note_155 : decode prog_12_method_13_code 155 = .ok (.iload 5, 2) := by decide +kernel
theorem d_Mo_note_157 : decode prog_12_method_13_code 157 = .ok (.if_icmp .ne 7, 3) := by decide +kernel
theorem d_Mo_note_160 : decode prog_12_method_13_code 160 = .ok (.iconst 1, 1) := by decide +kernel
theorem d_Mo_note_161 : decode prog_12_method_13_code 161 = .ok (.goto 4, 3) := by decide +kernel
theorem d_Mo_note_164 : decode prog_12_method_13_code 164 = .ok (.iconst 0, 1) := by decide +kernel
theorem d_Mo_note_165 : decode prog_12_method_13_code 165 = .ok (.istore 8, 2) := by decide +kernel
theorem d_Mo_note_167 : decode prog_12_method_13_code 167 = .ok (.iinc 9 1, 3) := by decide +kernel
theorem d_Mo_note_170 : decode prog_12_method_13_code 170 = .ok (.goto (-69), 3) := by decide +kernel
theorem d_Mo_note_173 : decode prog_12_method_13_code 173 = .ok (.iload 8, 2) := by decide +kernel
theorem d_Mo_note_175 : decode prog_12_method_13_code 175 = .ok (.ifCond .eq 9, 3) := by decide +kernel
theorem d_Mo_note_178 : decode prog_12_method_13_code 178 = .ok (.aload_n 0, 1) := by decide +kernel
theorem d_Mo_note_179 : decode prog_12_method_13_code 179 = .ok (.iconst 2, 1) := by decide +kernel
theorem d_Mo_note_180 : decode prog_12_method_13_code 180 = .ok (.invokevirtual 84, 3) := by decide +kernel
theorem d_Mo_note_183 : decode prog_12_method_13_code 183 = .ok (.ireturn, 1) := by decide +kernel
theorem d_Mo_note_184 : decode prog_12_method_13_code 184 = .ok (.aload_n 0, 1) := by decide +kernel
theorem d_Mo_note_185 : decode prog_12_method_13_code 185 = .ok (.getfield 22, 3) := by decide +kernel
theorem d_Mo_note_188 : decode prog_12_method_13_code 188 = .ok (.aload_n 0, 1) := by decide +kernel
theorem d_Mo_note_189 : decode prog_12_method_13_code 189 = .ok (.getfield 78, 3) := by decide +kernel
theorem d_Mo_note_192 : decode prog_12_method_13_code 192 = .ok (.iload_n 1, 1) := by decide +kernel
theorem d_Mo_note_193 : decode prog_12_method_13_code 193 = .ok (.iastore, 1) := by decide +kernel
theorem d_Mo_note_194 : decode prog_12_method_13_code 194 = .ok (.aload_n 0, 1) := by decide +kernel
theorem d_Mo_note_195 : decode prog_12_method_13_code 195 = .ok (.getfield 25, 3) := by decide +kernel
theorem d_Mo_note_198 : decode prog_12_method_13_code 198 = .ok (.aload_n 0, 1) := by decide +kernel
theorem d_Mo_note_199 : decode prog_12_method_13_code 199 = .ok (.getfield 78, 3) := by decide +kernel
theorem d_Mo_note_202 : decode prog_12_method_13_code 202 = .ok (.iload_n 2, 1) := by decide +kernel
theorem d_Mo_note_203 : decode prog_12_method_13_code 203 = .ok (.iastore, 1) := by decide +kernel
theorem d_Mo_note_204 : decode prog_12_method_13_code 204 = .ok (.aload_n 0, 1) := by decide +kernel
theorem d_Mo_note_205 : decode prog_12_method_13_code 205 = .ok (.getfield 28, 3) := by decide +kernel
theorem d_Mo_note_208 : decode prog_12_method_13_code 208 = .ok (.aload_n 0, 1) := by decide +kernel
theorem d_Mo_note_209 : decode prog_12_method_13_code 209 = .ok (.getfield 78, 3) := by decide +kernel
theorem d_Mo_note_212 : decode prog_12_method_13_code 212 = .ok (.iload_n 3, 1) := by decide +kernel
theorem d_Mo_note_213 : decode prog_12_method_13_code 213 = .ok (.iastore, 1) := by decide +kernel
theorem d_Mo_note_214 : decode prog_12_method_13_code 214 = .ok (.aload_n 0, 1) := by decide +kernel
theorem d_Mo_note_215 : decode prog_12_method_13_code 215 = .ok (.getfield 31, 3) := by decide +kernel
theorem d_Mo_note_218 : decode prog_12_method_13_code 218 = .ok (.aload_n 0, 1) := by decide +kernel
theorem d_Mo_note_219 : decode prog_12_method_13_code 219 = .ok (.getfield 78, 3) := by decide +kernel
theorem d_Mo_note_222 : decode prog_12_method_13_code 222 = .ok (.iload 4, 2) := by decide +kernel
theorem d_Mo_note_224 : decode prog_12_method_13_code 224 = .ok (.iastore, 1) := by decide +kernel
theorem d_Mo_note_225 : decode prog_12_method_13_code 225 = .ok (.aload_n 0, 1) := by decide +kernel
theorem d_Mo_note_226 : decode prog_12_method_13_code 226 = .ok (.getfield 34, 3) := by decide +kernel
theorem d_Mo_note_229 : decode prog_12_method_13_code 229 = .ok (.aload_n 0, 1) := by decide +kernel
theorem d_Mo_note_230 : decode prog_12_method_13_code 230 = .ok (.getfield 78, 3) := by decide +kernel
theorem d_Mo_note_233 : decode prog_12_method_13_code 233 = .ok (.iload 5, 2) := by decide +kernel
theorem d_Mo_note_235 : decode prog_12_method_13_code 235 = .ok (.iastore, 1) := by decide +kernel
theorem d_Mo_note_236 : decode prog_12_method_13_code 236 = .ok (.aload_n 0, 1) := by decide +kernel
theorem d_Mo_note_237 : decode prog_12_method_13_code 237 = .ok (.getfield 37, 3) := by decide +kernel
theorem d_Mo_note_240 : decode prog_12_method_13_code 240 = .ok (.aload_n 0, 1) := by decide +kernel
theorem d_Mo_note_241 : decode prog_12_method_13_code 241 = .ok (.getfield 78, 3) := by decide +kernel
theorem d_Mo_note_244 : decode prog_12_method_13_code 244 = .ok (.iload 6, 2) := by decide +kernel
theorem d_Mo_note_246 : decode prog_12_method_13_code 246 = .ok (.bastore, 1) := by decide +kernel
theorem d_Mo_note_247 : decode prog_12_method_13_code 247 = .ok (.aload_n 0, 1) := by decide +kernel
theorem d_Mo_note_248 : decode prog_12_method_13_code 248 = .ok (.dup, 1) := by decide +kernel
theorem d_Mo_note_249 : decode prog_12_method_13_code 249 = .ok (.getfield 78, 3) := by decide +kernel
theorem d_Mo_note_252 : decode prog_12_method_13_code 252 = .ok (.iconst 1, 1) := by decide +kernel
theorem d_Mo_note_253 : decode prog_12_method_13_code 253 = .ok (.iadd, 1) := by decide +kernel
theorem d_Mo_note_254 : decode prog_12_method_13_code 254 = .ok (.putfield 78, 3) := by decide +kernel
theorem d_Mo_note_257 : decode prog_12_method_13_code 257 = .ok (.aload_n 0, 1) := by decide +kernel
theorem d_Mo_note_258 : decode prog_12_method_13_code 258 = .ok (.getfield 78, 3) := by decide +kernel
theorem d_Mo_note_261 : decode prog_12_method_13_code 261 = .ok (.ireturn, 1) := by decide +kernel
theorem d_Mo_isPart_0 : decode prog_12_method_6_code 0 = .ok (.iload_n 0, 1) := by decide +kernel
theorem d_Mo_isPart_1 : decode prog_12_method_6_code 1 = .ok (.iconst 0, 1) := by decide +kernel
theorem d_Mo_isPart_2 : decode prog_12_method_6_code 2 = .ok (.iconst 2, 1) := by decide +kernel
theorem d_Mo_isPart_3 : decode prog_12_method_6_code 3 = .ok (.invokestatic 66, 3) := by decide +kernel
theorem d_Mo_isPart_6 : decode prog_12_method_6_code 6 = .ok (.ireturn, 1) := by decide +kernel
theorem d_Mo_refuse_0 : decode prog_12_method_3_code 0 = .ok (.aload_n 0, 1) := by decide +kernel
theorem d_Mo_refuse_1 : decode prog_12_method_3_code 1 = .ok (.iload_n 1, 1) := by decide +kernel
theorem d_Mo_refuse_2 : decode prog_12_method_3_code 2 = .ok (.putfield 63, 3) := by decide +kernel
theorem d_Mo_refuse_5 : decode prog_12_method_3_code 5 = .ok (.iconst 0, 1) := by decide +kernel
theorem d_Mo_refuse_6 : decode prog_12_method_3_code 6 = .ok (.ireturn, 1) := by decide +kernel
theorem d_Mo_transpose_0 : decode prog_12_method_14_code 0 = .ok (.aload_n 0, 1) := by decide +kernel
theorem d_Mo_transpose_1 : decode prog_12_method_14_code 1 = .ok (.iload_n 1, 1) := by decide +kernel
theorem d_Mo_transpose_2 : decode prog_12_method_14_code 2 = .ok (.invokestatic 81, 3) := by decide +kernel
theorem d_Mo_transpose_5 : decode prog_12_method_14_code 5 = .ok (.ifCond .eq 7, 3) := by decide +kernel
theorem d_Mo_transpose_8 : decode prog_12_method_14_code 8 = .ok (.iconst 0, 1) := by decide +kernel
theorem d_Mo_transpose_9 : decode prog_12_method_14_code 9 = .ok (.goto 4, 3) := by decide +kernel
theorem d_Mo_transpose_12 : decode prog_12_method_14_code 12 = .ok (.iconst 1, 1) := by decide +kernel
theorem d_Mo_transpose_13 : decode prog_12_method_14_code 13 = .ok (.putfield 63, 3) := by decide +kernel
theorem d_Mo_transpose_16 : decode prog_12_method_14_code 16 = .ok (.iconst 0, 1) := by decide +kernel
theorem d_Mo_transpose_17 : decode prog_12_method_14_code 17 = .ok (.istore_n 3, 1) := by decide +kernel
theorem d_Mo_transpose_18 : decode prog_12_method_14_code 18 = .ok (.iconst 0, 1) := by decide +kernel
theorem d_Mo_transpose_19 : decode prog_12_method_14_code 19 = .ok (.istore 4, 2) := by decide +kernel
theorem d_Mo_transpose_21 : decode prog_12_method_14_code 21 = .ok (.iload 4, 2) := by decide +kernel
theorem d_Mo_transpose_23 : decode prog_12_method_14_code 23 = .ok (.aload_n 0, 1) := by decide +kernel
theorem d_Mo_transpose_24 : decode prog_12_method_14_code 24 = .ok (.getfield 78, 3) := by decide +kernel
theorem d_Mo_transpose_27 : decode prog_12_method_14_code 27 = .ok (.if_icmp .ge 68, 3) := by decide +kernel
theorem d_Mo_transpose_30 : decode prog_12_method_14_code 30 = .ok (.aload_n 0, 1) := by decide +kernel
theorem d_Mo_transpose_31 : decode prog_12_method_14_code 31 = .ok (.getfield 63, 3) := by decide +kernel
theorem d_Mo_transpose_34 : decode prog_12_method_14_code 34 = .ok (.ifCond .ne 61, 3) := by decide +kernel
theorem d_Mo_transpose_37 : decode prog_12_method_14_code 37 = .ok (.aload_n 0, 1) := by decide +kernel
theorem d_Mo_transpose_38 : decode prog_12_method_14_code 38 = .ok (.getfield 22, 3) := by decide +kernel
theorem d_Mo_transpose_41 : decode prog_12_method_14_code 41 = .ok (.iload 4, 2) := by decide +kernel
theorem d_Mo_transpose_43 : decode prog_12_method_14_code 43 = .ok (.iaload, 1) := by decide +kernel
theorem d_Mo_transpose_44 : decode prog_12_method_14_code 44 = .ok (.iload_n 1, 1) := by decide +kernel
theorem d_Mo_transpose_45 : decode prog_12_method_14_code 45 = .ok (.if_icmp .ne 44, 3) := by decide +kernel
theorem d_Mo_transpose_48 : decode prog_12_method_14_code 48 = .ok (.aload_n 0, 1) := by decide +kernel
theorem d_Mo_transpose_49 : decode prog_12_method_14_code 49 = .ok (.getfield 34, 3) := by decide +kernel
theorem d_Mo_transpose_52 : decode prog_12_method_14_code 52 = .ok (.iload 4, 2) := by decide +kernel
theorem d_Mo_transpose_54 : decode prog_12_method_14_code 54 = .ok (.iaload, 1) := by decide +kernel
theorem d_Mo_transpose_55 : decode prog_12_method_14_code 55 = .ok (.i2l, 1) := by decide +kernel
theorem d_Mo_transpose_56 : decode prog_12_method_14_code 56 = .ok (.iload_n 2, 1) := by decide +kernel
theorem d_Mo_transpose_57 : decode prog_12_method_14_code 57 = .ok (.i2l, 1) := by decide +kernel
theorem d_Mo_transpose_58 : decode prog_12_method_14_code 58 = .ok (.ladd, 1) := by decide +kernel
theorem d_Mo_transpose_59 : decode prog_12_method_14_code 59 = .ok (.lstore 5, 2) := by decide +kernel
theorem d_Mo_transpose_61 : decode prog_12_method_14_code 61 = .ok (.aload_n 0, 1) := by decide +kernel
theorem d_Mo_transpose_62 : decode prog_12_method_14_code 62 = .ok (.lload 5, 2) := by decide +kernel
theorem d_Mo_transpose_64 : decode prog_12_method_14_code 64 = .ok (.lconst 0, 1) := by decide +kernel
theorem d_Mo_transpose_65 : decode prog_12_method_14_code 65 = .ok (.lcmp, 1) := by decide +kernel
theorem d_Mo_transpose_66 : decode prog_12_method_14_code 66 = .ok (.ifCond .lt 12, 3) := by decide +kernel
theorem d_Mo_transpose_69 : decode prog_12_method_14_code 69 = .ok (.lload 5, 2) := by decide +kernel
theorem d_Mo_transpose_71 : decode prog_12_method_14_code 71 = .ok (.ldc2_w 88, 3) := by decide +kernel
theorem d_Mo_transpose_74 : decode prog_12_method_14_code 74 = .ok (.lcmp, 1) := by decide +kernel
theorem d_Mo_transpose_75 : decode prog_12_method_14_code 75 = .ok (.ifCond .le 7, 3) := by decide +kernel
theorem d_Mo_transpose_78 : decode prog_12_method_14_code 78 = .ok (.iconst 1, 1) := by decide +kernel
theorem d_Mo_transpose_79 : decode prog_12_method_14_code 79 = .ok (.goto 4, 3) := by decide +kernel
theorem d_Mo_transpose_82 : decode prog_12_method_14_code 82 = .ok (.iconst 0, 1) := by decide +kernel
theorem d_Mo_transpose_83 : decode prog_12_method_14_code 83 = .ok (.putfield 63, 3) := by decide +kernel
theorem d_Mo_transpose_86 : decode prog_12_method_14_code 86 = .ok (.iinc 3 1, 3) := by decide +kernel
theorem d_Mo_transpose_89 : decode prog_12_method_14_code 89 = .ok (.iinc 4 1, 3) := by decide +kernel
theorem d_Mo_transpose_92 : decode prog_12_method_14_code 92 = .ok (.goto (-71), 3) := by decide +kernel
theorem d_Mo_transpose_95 : decode prog_12_method_14_code 95 = .ok (.aload_n 0, 1) := by decide +kernel
theorem d_Mo_transpose_96 : decode prog_12_method_14_code 96 = .ok (.getfield 63, 3) := by decide +kernel
theorem d_Mo_transpose_99 : decode prog_12_method_14_code 99 = .ok (.ifCond .le 5, 3) := by decide +kernel
theorem d_Mo_transpose_102 : decode prog_12_method_14_code 102 = .ok (.iconst 0, 1) := by decide +kernel
theorem d_Mo_transpose_103 : decode prog_12_method_14_code 103 = .ok (.ireturn, 1) := by decide +kernel
theorem d_Mo_transpose_104 : decode prog_12_method_14_code 104 = .ok (.iconst 0, 1) := by decide +kernel
theorem d_Mo_transpose_105 : decode prog_12_method_14_code 105 = .ok (.istore 4, 2) := by decide +kernel
theorem d_Mo_transpose_107 : decode prog_12_method_14_code 107 = .ok (.iload 4, 2) := by decide +kernel
theorem d_Mo_transpose_109 : decode prog_12_method_14_code 109 = .ok (.aload_n 0, 1) := by decide +kernel
theorem d_Mo_transpose_110 : decode prog_12_method_14_code 110 = .ok (.getfield 78, 3) := by decide +kernel
theorem d_Mo_transpose_113 : decode prog_12_method_14_code 113 = .ok (.if_icmp .ge 46, 3) := by decide +kernel
theorem d_Mo_transpose_116 : decode prog_12_method_14_code 116 = .ok (.aload_n 0, 1) := by decide +kernel
theorem d_Mo_transpose_117 : decode prog_12_method_14_code 117 = .ok (.getfield 34, 3) := by decide +kernel
theorem d_Mo_transpose_120 : decode prog_12_method_14_code 120 = .ok (.iload 4, 2) := by decide +kernel
theorem d_Mo_transpose_122 : decode prog_12_method_14_code 122 = .ok (.aload_n 0, 1) := by decide +kernel
theorem d_Mo_transpose_123 : decode prog_12_method_14_code 123 = .ok (.getfield 22, 3) := by decide +kernel
theorem d_Mo_transpose_126 : decode prog_12_method_14_code 126 = .ok (.iload 4, 2) := by decide +kernel
theorem d_Mo_transpose_128 : decode prog_12_method_14_code 128 = .ok (.iaload, 1) := by decide +kernel
theorem d_Mo_transpose_129 : decode prog_12_method_14_code 129 = .ok (.iload_n 1, 1) := by decide +kernel
theorem d_Mo_transpose_130 : decode prog_12_method_14_code 130 = .ok (.if_icmp .ne 15, 3) := by decide +kernel
theorem d_Mo_transpose_133 : decode prog_12_method_14_code 133 = .ok (.aload_n 0, 1) := by decide +kernel
theorem d_Mo_transpose_134 : decode prog_12_method_14_code 134 = .ok (.getfield 34, 3) := by decide +kernel
theorem d_Mo_transpose_137 : decode prog_12_method_14_code 137 = .ok (.iload 4, 2) := by decide +kernel
theorem d_Mo_transpose_139 : decode prog_12_method_14_code 139 = .ok (.iaload, 1) := by decide +kernel
theorem d_Mo_transpose_140 : decode prog_12_method_14_code 140 = .ok (.iload_n 2, 1) := by decide +kernel
theorem d_Mo_transpose_141 : decode prog_12_method_14_code 141 = .ok (.iadd, 1) := by decide +kernel
theorem d_Mo_transpose_142 : decode prog_12_method_14_code 142 = .ok (.goto 10, 3) := by decide +kernel
theorem d_Mo_transpose_145 : decode prog_12_method_14_code 145 = .ok (.aload_n 0, 1) := by decide +kernel
theorem d_Mo_transpose_146 : decode prog_12_method_14_code 146 = .ok (.getfield 34, 3) := by decide +kernel
theorem d_Mo_transpose_149 : decode prog_12_method_14_code 149 = .ok (.iload 4, 2) := by decide +kernel
theorem d_Mo_transpose_151 : decode prog_12_method_14_code 151 = .ok (.iaload, 1) := by decide +kernel
theorem d_Mo_transpose_152 : decode prog_12_method_14_code 152 = .ok (.iastore, 1) := by decide +kernel
theorem d_Mo_transpose_153 : decode prog_12_method_14_code 153 = .ok (.iinc 4 1, 3) := by decide +kernel
theorem d_Mo_transpose_156 : decode prog_12_method_14_code 156 = .ok (.goto (-49), 3) := by decide +kernel
theorem d_Mo_transpose_159 : decode prog_12_method_14_code 159 = .ok (.iload_n 3, 1) := by decide +kernel
theorem d_Mo_transpose_160 : decode prog_12_method_14_code 160 = .ok (.ireturn, 1) := by decide +kernel
theorem d_Mo_check_0 : decode prog_12_method_29_code 0 = .ok (.aload_n 0, 1) := by decide +kernel
theorem d_Mo_check_1 : decode prog_12_method_29_code 1 = .ok (.iconst 0, 1) := by decide +kernel
theorem d_Mo_check_2 : decode prog_12_method_29_code 2 = .ok (.putfield 63, 3) := by decide +kernel
theorem d_Mo_check_5 : decode prog_12_method_29_code 5 = .ok (.aload_n 0, 1) := by decide +kernel
theorem d_Mo_check_6 : decode prog_12_method_29_code 6 = .ok (.invokevirtual 141, 3) := by decide +kernel
theorem d_Mo_check_9 : decode prog_12_method_29_code 9 = .ok (.ireturn, 1) := by decide +kernel
theorem d_Mo_findFault_0 : decode prog_12_method_28_code 0 = .ok (.aload_n 0, 1) := by decide +kernel
theorem d_Mo_findFault_1 : decode prog_12_method_28_code 1 = .ok (.invokevirtual 125, 3) := by decide +kernel
theorem d_Mo_findFault_4 : decode prog_12_method_28_code 4 = .ok (.aload_n 0, 1) := by decide +kernel
theorem d_Mo_findFault_5 : decode prog_12_method_28_code 5 = .ok (.iconst 0, 1) := by decide +kernel
theorem d_Mo_findFault_6 : decode prog_12_method_28_code 6 = .ok (.putfield 109, 3) := by decide +kernel
theorem d_Mo_findFault_9 : decode prog_12_method_28_code 9 = .ok (.iconst 0, 1) := by decide +kernel
theorem d_Mo_findFault_10 : decode prog_12_method_28_code 10 = .ok (.istore_n 1, 1) := by decide +kernel
theorem d_Mo_findFault_11 : decode prog_12_method_28_code 11 = .ok (.iload_n 1, 1) := by decide +kernel
theorem d_Mo_findFault_12 : decode prog_12_method_28_code 12 = .ok (.aload_n 0, 1) := by decide +kernel
theorem d_Mo_findFault_13 : decode prog_12_method_28_code 13 = .ok (.getfield 59, 3) := by decide +kernel
theorem d_Mo_findFault_16 : decode prog_12_method_28_code 16 = .ok (.if_icmp .ge 124, 3) := by decide +kernel
theorem d_Mo_findFault_19 : decode prog_12_method_28_code 19 = .ok (.aload_n 0, 1) := by decide +kernel
theorem d_Mo_findFault_20 : decode prog_12_method_28_code 20 = .ok (.iload_n 1, 1) := by decide +kernel
theorem d_Mo_findFault_21 : decode prog_12_method_28_code 21 = .ok (.iconst 0, 1) := by decide +kernel
theorem d_Mo_findFault_22 : decode prog_12_method_28_code 22 = .ok (.invokevirtual 90, 3) := by decide +kernel
theorem d_Mo_findFault_25 : decode prog_12_method_28_code 25 = .ok (.ifCond .eq 8, 3) := by decide +kernel
theorem d_Mo_findFault_28 : decode prog_12_method_28_code 28 = .ok (.aload_n 0, 1) := by decide +kernel
theorem d_Mo_findFault_29 : decode prog_12_method_28_code 29 = .ok (.iload_n 1, 1) := by decide +kernel
theorem d_Mo_findFault_30 : decode prog_12_method_28_code 30 = .ok (.invokevirtual 128, 3) := by decide +kernel
theorem d_Mo_findFault_33 : decode prog_12_method_28_code 33 = .ok (.aload_n 0, 1) := by decide +kernel
theorem d_Mo_findFault_34 : decode prog_12_method_28_code 34 = .ok (.iload_n 1, 1) := by decide +kernel
theorem d_Mo_findFault_35 : decode prog_12_method_28_code 35 = .ok (.iconst 2, 1) := by decide +kernel
theorem d_Mo_findFault_36 : decode prog_12_method_28_code 36 = .ok (.invokevirtual 90, 3) := by decide +kernel
theorem d_Mo_findFault_39 : decode prog_12_method_28_code 39 = .ok (.ifCond .eq 8, 3) := by decide +kernel
theorem d_Mo_findFault_42 : decode prog_12_method_28_code 42 = .ok (.aload_n 0, 1) := by decide +kernel
theorem d_Mo_findFault_43 : decode prog_12_method_28_code 43 = .ok (.iload_n 1, 1) := by decide +kernel
theorem d_Mo_findFault_44 : decode prog_12_method_28_code 44 = .ok (.invokevirtual 132, 3) := by decide +kernel
theorem d_Mo_findFault_47 : decode prog_12_method_28_code 47 = .ok (.iconst 3, 1) := by decide +kernel
theorem d_Mo_findFault_48 : decode prog_12_method_28_code 48 = .ok (.istore_n 2, 1) := by decide +kernel
theorem d_Mo_findFault_49 : decode prog_12_method_28_code 49 = .ok (.iload_n 2, 1) := by decide +kernel
theorem d_Mo_findFault_50 : decode prog_12_method_28_code 50 = .ok (.bipush 7, 2) := by decide +kernel
theorem d_Mo_findFault_52 : decode prog_12_method_28_code 52 = .ok (.if_icmp .gt 67, 3) := by decide +kernel
theorem d_Mo_findFault_55 : decode prog_12_method_28_code 55 = .ok (.iload_n 2, 1) := by decide +kernel
theorem d_Mo_findFault_56 : decode prog_12_method_28_code 56 = .ok (.iconst 3, 1) := by decide +kernel
theorem d_Mo_findFault_57 : decode prog_12_method_28_code 57 = .ok (.if_icmp .eq 14, 3) := by decide +kernel
theorem d_Mo_findFault_60 : decode prog_12_method_28_code 60 = .ok (.iload_n 2, 1) := by decide +kernel
theorem d_Mo_findFault_61 : decode prog_12_method_28_code 61 = .ok (.iconst 4, 1) := by decide +kernel
theorem d_Mo_findFault_62 : decode prog_12_method_28_code 62 = .ok (.if_icmp .eq 9, 3) := by decide +kernel
theorem d_Mo_findFault_65 : decode prog_12_method_28_code 65 = .ok (.iload_n 2, 1) := by decide +kernel
theorem d_Mo_findFault_66 : decode prog_12_method_28_code 66 = .ok (.bipush 7, 2) := by decide +kernel
theorem d_Mo_findFault_68 : decode prog_12_method_28_code 68 = .ok (.if_icmp .ne 7, 3) := by decide +kernel
theorem d_Mo_findFault_71 : decode prog_12_method_28_code 71 = .ok (.iconst 1, 1) := by decide +kernel
theorem d_Mo_findFault_72 : decode prog_12_method_28_code 72 = .ok (.goto 4, 3) := by decide +kernel
theorem d_Mo_findFault_75 : decode prog_12_method_28_code 75 = .ok (.iconst 0, 1) := by decide +kernel
theorem d_Mo_findFault_76 : decode prog_12_method_28_code 76 = .ok (.istore_n 3, 1) := by decide +kernel
theorem d_Mo_findFault_77 : decode prog_12_method_28_code 77 = .ok (.aload_n 0, 1) := by decide +kernel
theorem d_Mo_findFault_78 : decode prog_12_method_28_code 78 = .ok (.iload_n 3, 1) := by decide +kernel
theorem d_Mo_findFault_79 : decode prog_12_method_28_code 79 = .ok (.ifCond .eq 28, 3) := by decide +kernel
theorem d_Mo_findFault_82 : decode prog_12_method_28_code 82 = .ok (.aload_n 0, 1) := by decide +kernel
theorem d_Mo_findFault_83 : decode prog_12_method_28_code 83 = .ok (.iload_n 1, 1) := by decide +kernel
theorem d_Mo_findFault_84 : decode prog_12_method_28_code 84 = .ok (.iload_n 2, 1) := by decide +kernel
theorem d_Mo_findFault_85 : decode prog_12_method_28_code 85 = .ok (.invokevirtual 90, 3) := by decide +kernel
theorem d_Mo_findFault_88 : decode prog_12_method_28_code 88 = .ok (.ifCond .eq 19, 3) := by decide +kernel
theorem d_Mo_findFault_91 : decode prog_12_method_28_code 91 = .ok (.aload_n 0, 1) := by decide +kernel
theorem d_Mo_findFault_92 : decode prog_12_method_28_code 92 = .ok (.iload_n 2, 1) := by decide +kernel
theorem d_Mo_findFault_93 : decode prog_12_method_28_code 93 = .ok (.iconst 0, 1) := by decide +kernel
theorem d_Mo_findFault_94 : decode prog_12_method_28_code 94 = .ok (.iload_n 1, 1) := by decide +kernel
theorem d_Mo_findFault_95 : decode prog_12_method_28_code 95 = .ok (.iconst 1, 1) := by decide +kernel
theorem d_Mo_findFault_96 : decode prog_12_method_28_code 96 = .ok (.isub, 1) := by decide +kernel
theorem d_Mo_findFault_97 : decode prog_12_method_28_code 97 = .ok (.invokevirtual 122, 3) := by decide +kernel
theorem d_Mo_findFault_100 : decode prog_12_method_28_code 100 = .ok (.ifCond .eq 7, 3) := by decide +kernel
theorem d_Mo_findFault_103 : decode prog_12_method_28_code 103 = .ok (.iconst 1, 1) := by decide +kernel
theorem d_Mo_findFault_104 : decode prog_12_method_28_code 104 = .ok (.goto 4, 3) := by decide +kernel
theorem d_Mo_findFault_107 : decode prog_12_method_28_code 107 = .ok (.iconst 0, 1) := by decide +kernel
theorem d_Mo_findFault_108 : decode prog_12_method_28_code 108 = .ok (.iconst 5, 1) := by decide +kernel
theorem d_Mo_findFault_109 : decode prog_12_method_28_code 109 = .ok (.iload_n 1, 1) := by decide +kernel
theorem d_Mo_findFault_110 : decode prog_12_method_28_code 110 = .ok (.invokevirtual 112, 3) := by decide +kernel
theorem d_Mo_findFault_113 : decode prog_12_method_28_code 113 = .ok (.iinc 2 1, 3) := by decide +kernel
theorem d_Mo_findFault_116 : decode prog_12_method_28_code 116 = .ok (.goto (-67), 3) := by decide +kernel
theorem d_Mo_findFault_119 : decode prog_12_method_28_code 119 = .ok (.aload_n 0, 1) := by decide +kernel
theorem d_Mo_findFault_120 : decode prog_12_method_28_code 120 = .ok (.iload_n 1, 1) := by decide +kernel
theorem d_Mo_findFault_121 : decode prog_12_method_28_code 121 = .ok (.bipush 7, 2) := by decide +kernel
theorem d_Mo_findFault_123 : decode prog_12_method_28_code 123 = .ok (.invokevirtual 90, 3) := by decide +kernel
theorem d_Mo_findFault_126 : decode prog_12_method_28_code 126 = .ok (.ifCond .eq 8, 3) := by decide +kernel
theorem d_Mo_findFault_129 : decode prog_12_method_28_code 129 = .ok (.aload_n 0, 1) := by decide +kernel
theorem d_Mo_findFault_130 : decode prog_12_method_28_code 130 = .ok (.iload_n 1, 1) := by decide +kernel
theorem d_Mo_findFault_131 : decode prog_12_method_28_code 131 = .ok (.invokevirtual 135, 3) := by decide +kernel
theorem d_Mo_findFault_134 : decode prog_12_method_28_code 134 = .ok (.iinc 1 1, 3) := by decide +kernel
theorem d_Mo_findFault_137 : decode prog_12_method_28_code 137 = .ok (.goto (-126), 3) := by decide +kernel
theorem d_Mo_findFault_140 : decode prog_12_method_28_code 140 = .ok (.iconst 0, 1) := by decide +kernel
theorem d_Mo_findFault_141 : decode prog_12_method_28_code 141 = .ok (.istore_n 1, 1) := by decide +kernel
theorem d_Mo_findFault_142 : decode prog_12_method_28_code 142 = .ok (.iload_n 1, 1) := by decide +kernel
theorem d_Mo_findFault_143 : decode prog_12_method_28_code 143 = .ok (.aload_n 0, 1) := by decide +kernel
theorem d_Mo_findFault_144 : decode prog_12_method_28_code 144 = .ok (.getfield 97, 3) := by decide +kernel
theorem d_Mo_findFault_147 : decode prog_12_method_28_code 147 = .ok (.if_icmp .ge 23, 3) := by decide +kernel
theorem d_Mo_findFault_150 : decode prog_12_method_28_code 150 = .ok (.aload_n 0, 1) := by decide +kernel
theorem d_Mo_findFault_151 : decode prog_12_method_28_code 151 = .ok (.getfield 47, 3) := by decide +kernel
theorem d_Mo_findFault_154 : decode prog_12_method_28_code 154 = .ok (.iload_n 1, 1) := by decide +kernel
theorem d_Mo_findFault_155 : decode prog_12_method_28_code 155 = .ok (.iaload, 1) := by decide +kernel
theorem d_Mo_findFault_156 : decode prog_12_method_28_code 156 = .ok (.ifCond .eq 8, 3) := by decide +kernel
theorem d_Mo_findFault_159 : decode prog_12_method_28_code 159 = .ok (.aload_n 0, 1) := by decide +kernel
theorem d_Mo_findFault_160 : decode prog_12_method_28_code 160 = .ok (.iload_n 1, 1) := by decide +kernel
theorem d_Mo_findFault_161 : decode prog_12_method_28_code 161 = .ok (.invokevirtual 138, 3) := by decide +kernel
theorem d_Mo_findFault_164 : decode prog_12_method_28_code 164 = .ok (.iinc 1 1, 3) := by decide +kernel
theorem d_Mo_findFault_167 : decode prog_12_method_28_code 167 = .ok (.goto (-25), 3) := by decide +kernel
theorem d_Mo_findFault_170 : decode prog_12_method_28_code 170 = .ok (.aload_n 0, 1) := by decide +kernel
theorem d_Mo_findFault_171 : decode prog_12_method_28_code 171 = .ok (.getfield 109, 3) := by decide +kernel
theorem d_Mo_findFault_174 : decode prog_12_method_28_code 174 = .ok (.ireturn, 1) := by decide +kernel
theorem d_Mo_findRepeats_0 : decode prog_12_method_20_code 0 = .ok (.aload_n 0, 1) := by decide +kernel
theorem d_Mo_findRepeats_1 : decode prog_12_method_20_code 1 = .ok (.iconst 0, 1) := by decide +kernel
theorem d_Mo_findRepeats_2 : decode prog_12_method_20_code 2 = .ok (.putfield 97, 3) := by decide +kernel
theorem d_Mo_findRepeats_5 : decode prog_12_method_20_code 5 = .ok (.iconst (-1), 1) := by decide +kernel
theorem d_Mo_findRepeats_6 : decode prog_12_method_20_code 6 = .ok (.istore_n 1, 1) := by decide +kernel
theorem d_Mo_findRepeats_7 : decode prog_12_method_20_code 7 = .ok (.iconst 0, 1) := by decide +kernel
theorem d_Mo_findRepeats_8 : decode prog_12_method_20_code 8 = .ok (.istore_n 2, 1) := by decide +kernel
theorem d_Mo_findRepeats_9 : decode prog_12_method_20_code 9 = .ok (.iload_n 2, 1) := by decide +kernel
theorem d_Mo_findRepeats_10 : decode prog_12_method_20_code 10 = .ok (.aload_n 0, 1) := by decide +kernel
theorem d_Mo_findRepeats_11 : decode prog_12_method_20_code 11 = .ok (.getfield 59, 3) := by decide +kernel
theorem d_Mo_findRepeats_14 : decode prog_12_method_20_code 14 = .ok (.if_icmp .ge 149, 3) := by decide +kernel
theorem d_Mo_findRepeats_17 : decode prog_12_method_20_code 17 = .ok (.aload_n 0, 1) := by decide +kernel
theorem d_Mo_findRepeats_18 : decode prog_12_method_20_code 18 = .ok (.iload_n 2, 1) := by decide +kernel
theorem d_Mo_findRepeats_19 : decode prog_12_method_20_code 19 = .ok (.iconst 1, 1) := by decide +kernel
theorem d_Mo_findRepeats_20 : decode prog_12_method_20_code 20 = .ok (.invokevirtual 90, 3) := by decide +kernel
theorem d_Mo_findRepeats_23 : decode prog_12_method_20_code 23 = .ok (.ifCond .eq 134, 3) := by decide +kernel
theorem d_Mo_findRepeats_26 : decode prog_12_method_20_code 26 = .ok (.aload_n 0, 1) := by decide +kernel
theorem d_Mo_findRepeats_27 : decode prog_12_method_20_code 27 = .ok (.iload_n 1, 1) := by decide +kernel
theorem d_Mo_findRepeats_28 : decode prog_12_method_20_code 28 = .ok (.iconst 1, 1) := by decide +kernel
theorem d_Mo_findRepeats_29 : decode prog_12_method_20_code 29 = .ok (.iadd, 1) := by decide +kernel
theorem d_Mo_findRepeats_30 : decode prog_12_method_20_code 30 = .ok (.iload_n 2, 1) := by decide +kernel
theorem d_Mo_findRepeats_31 : decode prog_12_method_20_code 31 = .ok (.invokevirtual 100, 3) := by decide +kernel
theorem d_Mo_findRepeats_34 : decode prog_12_method_20_code 34 = .ok (.istore_n 3, 1) := by decide +kernel
theorem d_Mo_findRepeats_35 : decode prog_12_method_20_code 35 = .ok (.iload_n 1, 1) := by decide +kernel
theorem d_Mo_findRepeats_36 : decode prog_12_method_20_code 36 = .ok (.ifCond .lt 18, 3) := by decide +kernel
theorem d_Mo_findRepeats_39 : decode prog_12_method_20_code 39 = .ok (.iload_n 3, 1) := by decide +kernel
theorem d_Mo_findRepeats_40 : decode prog_12_method_20_code 40 = .ok (.ifCond .ge 14, 3) := by decide +kernel
theorem d_Mo_findRepeats_43 : decode prog_12_method_20_code 43 = .ok (.aload_n 0, 1) := by decide +kernel
theorem d_Mo_findRepeats_44 : decode prog_12_method_20_code 44 = .ok (.iload_n 1, 1) := by decide +kernel
theorem d_Mo_findRepeats_45 : decode prog_12_method_20_code 45 = .ok (.iconst 1, 1) := by decide +kernel
theorem d_Mo_findRepeats_46 : decode prog_12_method_20_code 46 = .ok (.iadd, 1) := by decide +kernel
theorem d_Mo_findRepeats_47 : decode prog_12_method_20_code 47 = .ok (.iconst 2, 1) := by decide +kernel
theorem d_Mo_findRepeats_48 : decode prog_12_method_20_code 48 = .ok (.invokevirtual 90, 3) := by decide +kernel
theorem d_Mo_findRepeats_51 : decode prog_12_method_20_code 51 = .ok (.ifCond .ne 78, 3) := by decide +kernel
theorem d_Mo_findRepeats_54 : decode prog_12_method_20_code 54 = .ok (.aload_n 0, 1) := by decide +kernel
theorem d_Mo_findRepeats_55 : decode prog_12_method_20_code 55 = .ok (.getfield 41, 3) := by decide +kernel
theorem d_Mo_findRepeats_58 : decode prog_12_method_20_code 58 = .ok (.aload_n 0, 1) := by decide +kernel
theorem d_Mo_findRepeats_59 : decode prog_12_method_20_code 59 = .ok (.getfield 97, 3) := by decide +kernel
theorem d_Mo_findRepeats_62 : decode prog_12_method_20_code 62 = .ok (.iload_n 3, 1) := by decide +kernel
theorem d_Mo_findRepeats_63 : decode prog_12_method_20_code 63 = .ok (.ifCond .ge 9, 3) := by decide +kernel
theorem d_Mo_findRepeats_66 : decode prog_12_method_20_code 66 = .ok (.iload_n 1, 1) := by decide +kernel
theorem d_Mo_findRepeats_67 : decode prog_12_method_20_code 67 = .ok (.iconst 1, 1) := by decide +kernel
theorem d_Mo_findRepeats_68 : decode prog_12_method_20_code 68 = .ok (.iadd, 1) := by decide +kernel
theorem d_Mo_findRepeats_69 : decode prog_12_method_20_code 69 = .ok (.goto 4, 3) := by decide +kernel
theorem d_Mo_findRepeats_72 : decode prog_12_method_20_code 72 = .ok (.iload_n 3, 1) := by decide +kernel
theorem d_Mo_findRepeats_73 : decode prog_12_method_20_code 73 = .ok (.iastore, 1) := by decide +kernel
theorem d_Mo_findRepeats_74 : decode prog_12_method_20_code 74 = .ok (.aload_n 0, 1) := by decide +kernel
theorem d_Mo_findRepeats_75 : decode prog_12_method_20_code 75 = .ok (.getfield 44, 3) := by decide +kernel
theorem d_Mo_findRepeats_78 : decode prog_12_method_20_code 78 = .ok (.aload_n 0, 1) := by decide +kernel
theorem d_Mo_findRepeats_79 : decode prog_12_method_20_code 79 = .ok (.getfield 97, 3) := by decide +kernel
theorem d_Mo_findRepeats_82 : decode prog_12_method_20_code 82 = .ok (.iconst 0, 1) := by decide +kernel
theorem d_Mo_findRepeats_83 : decode prog_12_method_20_code 83 = .ok (.iastore, 1) := by decide +kernel
theorem d_Mo_findRepeats_84 : decode prog_12_method_20_code 84 = .ok (.aload_n 0, 1) := by decide +kernel
theorem d_Mo_findRepeats_85 : decode prog_12_method_20_code 85 = .ok (.getfield 47, 3) := by decide +kernel
theorem d_Mo_findRepeats_88 : decode prog_12_method_20_code 88 = .ok (.aload_n 0, 1) := by decide +kernel
theorem d_Mo_findRepeats_89 : decode prog_12_method_20_code 89 = .ok (.getfield 97, 3) := by decide +kernel
theorem d_Mo_findRepeats_92 : decode prog_12_method_20_code 92 = .ok (.iconst 0, 1) := by decide +kernel
theorem d_Mo_findRepeats_93 : decode prog_12_method_20_code 93 = .ok (.iastore, 1) := by decide +kernel
theorem d_Mo_findRepeats_94 : decode prog_12_method_20_code 94 = .ok (.aload_n 0, 1) := by decide +kernel
theorem d_Mo_findRepeats_95 : decode prog_12_method_20_code 95 = .ok (.getfield 50, 3) := by decide +kernel
theorem d_Mo_findRepeats_98 : decode prog_12_method_20_code 98 = .ok (.aload_n 0, 1) := by decide +kernel
theorem d_Mo_findRepeats_99 : decode prog_12_method_20_code 99 = .ok (.getfield 97, 3) := by decide +kernel
theorem d_Mo_findRepeats_102 : decode prog_12_method_20_code 102 = .ok (.aload_n 0, 1) := by decide +kernel
theorem d_Mo_findRepeats_103 : decode prog_12_method_20_code 103 = .ok (.iload_n 2, 1) := by decide +kernel
theorem d_Mo_findRepeats_104 : decode prog_12_method_20_code 104 = .ok (.iconst 1, 1) := by decide +kernel
theorem d_Mo_findRepeats_105 : decode prog_12_method_20_code 105 = .ok (.invokevirtual 70, 3) := by decide +kernel
theorem d_Mo_findRepeats_108 : decode prog_12_method_20_code 108 = .ok (.iastore, 1) := by decide +kernel
theorem d_Mo_findRepeats_109 : decode prog_12_method_20_code 109 = .ok (.aload_n 0, 1) := by decide +kernel
theorem d_Mo_findRepeats_110 : decode prog_12_method_20_code 110 = .ok (.getfield 53, 3) := by decide +kernel
theorem d_Mo_findRepeats_113 : decode prog_12_method_20_code 113 = .ok (.aload_n 0, 1) := by decide +kernel
theorem d_Mo_findRepeats_114 : decode prog_12_method_20_code 114 = .ok (.getfield 97, 3) := by decide +kernel
theorem d_Mo_findRepeats_117 : decode prog_12_method_20_code 117 = .ok (.iconst 1, 1) := by decide +kernel
theorem d_Mo_findRepeats_118 : decode prog_12_method_20_code 118 = .ok (.iastore, 1) := by decide +kernel
theorem d_Mo_findRepeats_119 : decode prog_12_method_20_code 119 = .ok (.aload_n 0, 1) := by decide +kernel
theorem d_Mo_findRepeats_120 : decode prog_12_method_20_code 120 = .ok (.dup, 1) := by decide +kernel
theorem d_Mo_findRepeats_121 : decode prog_12_method_20_code 121 = .ok (.getfield 97, 3) := by decide +kernel
theorem d_Mo_findRepeats_124 : decode prog_12_method_20_code 124 = .ok (.iconst 1, 1) := by decide +kernel
theorem d_Mo_findRepeats_125 : decode prog_12_method_20_code 125 = .ok (.iadd, 1) := by decide +kernel
theorem d_Mo_findRepeats_126 : decode prog_12_method_20_code 126 = .ok (.putfield 97, 3) := by decide +kernel
theorem d_Mo_findRepeats_129 : decode prog_12_method_20_code 129 = .ok (.aload_n 0, 1) := by decide +kernel
theorem d_Mo_findRepeats_130 : decode prog_12_method_20_code 130 = .ok (.getfield 44, 3) := by decide +kernel
theorem d_Mo_findRepeats_133 : decode prog_12_method_20_code 133 = .ok (.aload_n 0, 1) := by decide +kernel
theorem d_Mo_findRepeats_134 : decode prog_12_method_20_code 134 = .ok (.getfield 97, 3) := by decide +kernel
theorem d_Mo_findRepeats_137 : decode prog_12_method_20_code 137 = .ok (.iconst 1, 1) := by decide +kernel
theorem d_Mo_findRepeats_138 : decode prog_12_method_20_code 138 = .ok (.isub, 1) := by decide +kernel
theorem d_Mo_findRepeats_139 : decode prog_12_method_20_code 139 = .ok (.aload_n 0, 1) := by decide +kernel
theorem d_Mo_findRepeats_140 : decode prog_12_method_20_code 140 = .ok (.getfield 44, 3) := by decide +kernel
theorem d_Mo_findRepeats_143 : decode prog_12_method_20_code 143 = .ok (.aload_n 0, 1) := by decide +kernel
theorem d_Mo_findRepeats_144 : decode prog_12_method_20_code 144 = .ok (.getfield 97, 3) := by decide +kernel
theorem d_Mo_findRepeats_147 : decode prog_12_method_20_code 147 = .ok (.iconst 1, 1) := by decide +kernel
theorem d_Mo_findRepeats_148 : decode prog_12_method_20_code 148 = .ok (.isub, 1) := by decide +kernel
theorem d_Mo_findRepeats_149 : decode prog_12_method_20_code 149 = .ok (.iaload, 1) := by decide +kernel
theorem d_Mo_findRepeats_150 : decode prog_12_method_20_code 150 = .ok (.iconst 1, 1) := by decide +kernel
theorem d_Mo_findRepeats_151 : decode prog_12_method_20_code 151 = .ok (.iload_n 2, 1) := by decide +kernel
theorem d_Mo_findRepeats_152 : decode prog_12_method_20_code 152 = .ok (.ishl, 1) := by decide +kernel
theorem d_Mo_findRepeats_153 : decode prog_12_method_20_code 153 = .ok (.ior, 1) := by decide +kernel
theorem d_Mo_findRepeats_154 : decode prog_12_method_20_code 154 = .ok (.iastore, 1) := by decide +kernel
theorem d_Mo_findRepeats_155 : decode prog_12_method_20_code 155 = .ok (.iload_n 2, 1) := by decide +kernel
theorem d_Mo_findRepeats_156 : decode prog_12_method_20_code 156 = .ok (.istore_n 1, 1) := by decide +kernel
theorem d_Mo_findRepeats_157 : decode prog_12_method_20_code 157 = .ok (.iinc 2 1, 3) := by decide +kernel
theorem d_Mo_findRepeats_160 : decode prog_12_method_20_code 160 = .ok (.goto (-151), 3) := by decide +kernel
theorem d_Mo_findRepeats_163 : decode prog_12_method_20_code 163 = .ok (.iconst 0, 1) := by decide +kernel
theorem d_Mo_findRepeats_164 : decode prog_12_method_20_code 164 = .ok (.istore_n 2, 1) := by decide +kernel
theorem d_Mo_findRepeats_165 : decode prog_12_method_20_code 165 = .ok (.iload_n 2, 1) := by decide +kernel
theorem d_Mo_findRepeats_166 : decode prog_12_method_20_code 166 = .ok (.aload_n 0, 1) := by decide +kernel
theorem d_Mo_findRepeats_167 : decode prog_12_method_20_code 167 = .ok (.getfield 97, 3) := by decide +kernel
theorem d_Mo_findRepeats_170 : decode prog_12_method_20_code 170 = .ok (.if_icmp .ge 176, 3) := by decide +kernel
theorem d_Mo_findRepeats_173 : decode prog_12_method_20_code 173 = .ok (.aload_n 0, 1) := by decide +kernel
theorem d_Mo_findRepeats_174 : decode prog_12_method_20_code 174 = .ok (.aload_n 0, 1) := by decide +kernel
theorem d_Mo_findRepeats_175 : decode prog_12_method_20_code 175 = .ok (.getfield 44, 3) := by decide +kernel
theorem d_Mo_findRepeats_178 : decode prog_12_method_20_code 178 = .ok (.iload_n 2, 1) := by decide +kernel
theorem d_Mo_findRepeats_179 : decode prog_12_method_20_code 179 = .ok (.iaload, 1) := by decide +kernel
theorem d_Mo_findRepeats_180 : decode prog_12_method_20_code 180 = .ok (.invokevirtual 103, 3) := by decide +kernel
theorem d_Mo_findRepeats_183 : decode prog_12_method_20_code 183 = .ok (.istore_n 3, 1) := by decide +kernel
theorem d_Mo_findRepeats_184 : decode prog_12_method_20_code 184 = .ok (.aload_n 0, 1) := by decide +kernel
theorem d_Mo_findRepeats_185 : decode prog_12_method_20_code 185 = .ok (.getfield 41, 3) := by decide +kernel
theorem d_Mo_findRepeats_188 : decode prog_12_method_20_code 188 = .ok (.iload_n 2, 1) := by decide +kernel
theorem d_Mo_findRepeats_189 : decode prog_12_method_20_code 189 = .ok (.iaload, 1) := by decide +kernel
theorem d_Mo_findRepeats_190 : decode prog_12_method_20_code 190 = .ok (.istore 4, 2) := by decide +kernel
theorem d_Mo_findRepeats_192 : decode prog_12_method_20_code 192 = .ok (.iload 4, 2) := by decide +kernel
theorem d_Mo_findRepeats_194 : decode prog_12_method_20_code 194 = .ok (.iload_n 3, 1) := by decide +kernel
theorem d_Mo_findRepeats_195 : decode prog_12_method_20_code 195 = .ok (.if_icmp .gt 54, 3) := by decide +kernel
theorem d_Mo_findRepeats_198 : decode prog_12_method_20_code 198 = .ok (.aload_n 0, 1) := by decide +kernel
theorem d_Mo_findRepeats_199 : decode prog_12_method_20_code 199 = .ok (.getfield 47, 3) := by decide +kernel
theorem d_Mo_findRepeats_202 : decode prog_12_method_20_code 202 = .ok (.iload_n 2, 1) := by decide +kernel
theorem d_Mo_findRepeats_203 : decode prog_12_method_20_code 203 = .ok (.aload_n 0, 1) := by decide +kernel
theorem d_Mo_findRepeats_204 : decode prog_12_method_20_code 204 = .ok (.iload 4, 2) := by decide +kernel
theorem d_Mo_findRepeats_206 : decode prog_12_method_20_code 206 = .ok (.iconst 2, 1) := by decide +kernel
theorem d_Mo_findRepeats_207 : decode prog_12_method_20_code 207 = .ok (.invokevirtual 90, 3) := by decide +kernel
theorem d_Mo_findRepeats_210 : decode prog_12_method_20_code 210 = .ok (.ifCond .eq 26, 3) := by decide +kernel
theorem d_Mo_findRepeats_213 : decode prog_12_method_20_code 213 = .ok (.aload_n 0, 1) := by decide +kernel
theorem d_Mo_findRepeats_214 : decode prog_12_method_20_code 214 = .ok (.iload 4, 2) := by decide +kernel
theorem d_Mo_findRepeats_216 : decode prog_12_method_20_code 216 = .ok (.invokevirtual 106, 3) := by decide +kernel
theorem d_Mo_findRepeats_219 : decode prog_12_method_20_code 219 = .ok (.ifCond .ge 17, 3) := by decide +kernel
theorem d_Mo_findRepeats_222 : decode prog_12_method_20_code 222 = .ok (.aload_n 0, 1) := by decide +kernel
theorem d_Mo_findRepeats_223 : decode prog_12_method_20_code 223 = .ok (.getfield 47, 3) := by decide +kernel
theorem d_Mo_findRepeats_226 : decode prog_12_method_20_code 226 = .ok (.iload_n 2, 1) := by decide +kernel
theorem d_Mo_findRepeats_227 : decode prog_12_method_20_code 227 = .ok (.iaload, 1) := by decide +kernel
theorem d_Mo_findRepeats_228 : decode prog_12_method_20_code 228 = .ok (.iconst 1, 1) := by decide +kernel
theorem d_Mo_findRepeats_229 : decode prog_12_method_20_code 229 = .ok (.iload 4, 2) := by decide +kernel
theorem d_Mo_findRepeats_231 : decode prog_12_method_20_code 231 = .ok (.ishl, 1) := by decide +kernel
theorem d_Mo_findRepeats_232 : decode prog_12_method_20_code 232 = .ok (.ior, 1) := by decide +kernel
theorem d_Mo_findRepeats_233 : decode prog_12_method_20_code 233 = .ok (.goto 9, 3) := by decide +kernel
theorem d_Mo_findRepeats_236 : decode prog_12_method_20_code 236 = .ok (.aload_n 0, 1) := by decide +kernel
theorem d_Mo_findRepeats_237 : decode prog_12_method_20_code 237 = .ok (.getfield 47, 3) := by decide +kernel
theorem d_Mo_findRepeats_240 : decode prog_12_method_20_code 240 = .ok (.iload_n 2, 1) := by decide +kernel
theorem d_Mo_findRepeats_241 : decode prog_12_method_20_code 241 = .ok (.iaload, 1) := by decide +kernel
theorem d_Mo_findRepeats_242 : decode prog_12_method_20_code 242 = .ok (.iastore, 1) := by decide +kernel
theorem d_Mo_findRepeats_243 : decode prog_12_method_20_code 243 = .ok (.iinc 4 1, 3) := by decide +kernel
theorem d_Mo_findRepeats_246 : decode prog_12_method_20_code 246 = .ok (.goto (-54), 3) := by decide +kernel
theorem d_Mo_findRepeats_249 : decode prog_12_method_20_code 249 = .ok (.aload_n 0, 1) := by decide +kernel
theorem d_Mo_findRepeats_250 : decode prog_12_method_20_code 250 = .ok (.getfield 47, 3) := by decide +kernel
theorem d_Mo_findRepeats_253 : decode prog_12_method_20_code 253 = .ok (.iload_n 2, 1) := by decide +kernel
theorem d_Mo_findRepeats_254 : decode prog_12_method_20_code 254 = .ok (.iaload, 1) := by decide +kernel
theorem d_Mo_findRepeats_255 : decode prog_12_method_20_code 255 = .ok (.ifCond .eq 7, 3) := by decide +kernel
theorem d_Mo_findRepeats_258 : decode prog_12_method_20_code 258 = .ok (.iconst 1, 1) := by decide +kernel
theorem d_Mo_findRepeats_259 : decode prog_12_method_20_code 259 = .ok (.goto 4, 3) := by decide +kernel
theorem d_Mo_findRepeats_262 : decode prog_12_method_20_code 262 = .ok (.iconst 0, 1) := by decide +kernel
theorem d_Mo_findRepeats_263 : decode prog_12_method_20_code 263 = .ok (.istore 4, 2) := by decide +kernel
theorem d_Mo_findRepeats_265 : decode prog_12_method_20_code 265 = .ok (.iconst 1, 1) := by decide +kernel
theorem d_Mo_findRepeats_266 : decode prog_12_method_20_code 266 = .ok (.istore 5, 2) := by decide +kernel
theorem d_Mo_findRepeats_268 : decode prog_12_method_20_code 268 = .ok (.iload 5, 2) := by decide +kernel
theorem d_Mo_findRepeats_270 : decode prog_12_method_20_code 270 = .ok (.aload_n 0, 1) := by decide +kernel
theorem d_Mo_findRepeats_271 : decode prog_12_method_20_code 271 = .ok (.getfield 59, 3) := by decide +kernel
theorem d_Mo_findRepeats_274 : decode prog_12_method_20_code 274 = .ok (.if_icmp .ge 66, 3) := by decide +kernel
theorem d_Mo_findRepeats_277 : decode prog_12_method_20_code 277 = .ok (.iload 4, 2) := by decide +kernel
theorem d_Mo_findRepeats_279 : decode prog_12_method_20_code 279 = .ok (.ifCond .eq 61, 3) := by decide +kernel
theorem d_Mo_findRepeats_282 : decode prog_12_method_20_code 282 = .ok (.aload_n 0, 1) := by decide +kernel
theorem d_Mo_findRepeats_283 : decode prog_12_method_20_code 283 = .ok (.getfield 47, 3) := by decide +kernel
theorem d_Mo_findRepeats_286 : decode prog_12_method_20_code 286 = .ok (.iload_n 2, 1) := by decide +kernel
theorem d_Mo_findRepeats_287 : decode prog_12_method_20_code 287 = .ok (.aload_n 0, 1) := by decide +kernel
theorem d_Mo_findRepeats_288 : decode prog_12_method_20_code 288 = .ok (.getfield 44, 3) := by decide +kernel
theorem d_Mo_findRepeats_291 : decode prog_12_method_20_code 291 = .ok (.iload_n 2, 1) := by decide +kernel
theorem d_Mo_findRepeats_292 : decode prog_12_method_20_code 292 = .ok (.iaload, 1) := by decide +kernel
theorem d_Mo_findRepeats_293 : decode prog_12_method_20_code 293 = .ok (.iload 5, 2) := by decide +kernel
theorem d_Mo_findRepeats_295 : decode prog_12_method_20_code 295 = .ok (.iconst 1, 1) := by decide +kernel
theorem d_Mo_findRepeats_296 : decode prog_12_method_20_code 296 = .ok (.isub, 1) := by decide +kernel
theorem d_Mo_findRepeats_297 : decode prog_12_method_20_code 297 = .ok (.invokestatic 94, 3) := by decide +kernel
theorem d_Mo_findRepeats_300 : decode prog_12_method_20_code 300 = .ok (.ifCond .eq 27, 3) := by decide +kernel
theorem d_Mo_findRepeats_303 : decode prog_12_method_20_code 303 = .ok (.aload_n 0, 1) := by decide +kernel
theorem d_Mo_findRepeats_304 : decode prog_12_method_20_code 304 = .ok (.iload 5, 2) := by decide +kernel
theorem d_Mo_findRepeats_306 : decode prog_12_method_20_code 306 = .ok (.iconst 2, 1) := by decide +kernel
theorem d_Mo_findRepeats_307 : decode prog_12_method_20_code 307 = .ok (.invokevirtual 90, 3) := by decide +kernel
theorem d_Mo_findRepeats_310 : decode prog_12_method_20_code 310 = .ok (.ifCond .eq 17, 3) := by decide +kernel
theorem d_Mo_findRepeats_313 : decode prog_12_method_20_code 313 = .ok (.aload_n 0, 1) := by decide +kernel
theorem d_Mo_findRepeats_314 : decode prog_12_method_20_code 314 = .ok (.getfield 47, 3) := by decide +kernel
theorem d_Mo_findRepeats_317 : decode prog_12_method_20_code 317 = .ok (.iload_n 2, 1) := by decide +kernel
theorem d_Mo_findRepeats_318 : decode prog_12_method_20_code 318 = .ok (.iaload, 1) := by decide +kernel
theorem d_Mo_findRepeats_319 : decode prog_12_method_20_code 319 = .ok (.iconst 1, 1) := by decide +kernel
theorem d_Mo_findRepeats_320 : decode prog_12_method_20_code 320 = .ok (.iload 5, 2) := by decide +kernel
theorem d_Mo_findRepeats_322 : decode prog_12_method_20_code 322 = .ok (.ishl, 1) := by decide +kernel
theorem d_Mo_findRepeats_323 : decode prog_12_method_20_code 323 = .ok (.ior, 1) := by decide +kernel
theorem d_Mo_findRepeats_324 : decode prog_12_method_20_code 324 = .ok (.goto 9, 3) := by decide +kernel
theorem d_Mo_findRepeats_327 : decode prog_12_method_20_code 327 = .ok (.aload_n 0, 1) := by decide +kernel
theorem d_Mo_findRepeats_328 : decode prog_12_method_20_code 328 = .ok (.getfield 47, 3) := by decide +kernel
theorem d_Mo_findRepeats_331 : decode prog_12_method_20_code 331 = .ok (.iload_n 2, 1) := by decide +kernel
theorem d_Mo_findRepeats_332 : decode prog_12_method_20_code 332 = .ok (.iaload, 1) := by decide +kernel
theorem d_Mo_findRepeats_333 : decode prog_12_method_20_code 333 = .ok (.iastore, 1) := by decide +kernel
theorem d_Mo_findRepeats_334 : decode prog_12_method_20_code 334 = .ok (.iinc 5 1, 3) := by decide +kernel
theorem d_Mo_findRepeats_337 : decode prog_12_method_20_code 337 = .ok (.goto (-69), 3) := by decide +kernel
theorem d_Mo_findRepeats_340 : decode prog_12_method_20_code 340 = .ok (.iinc 2 1, 3) := by decide +kernel
theorem d_Mo_findRepeats_343 : decode prog_12_method_20_code 343 = .ok (.goto (-178), 3) := by decide +kernel
theorem d_Mo_findRepeats_346 : decode prog_12_method_20_code 346 = .ok (.return_, 1) := by decide +kernel
theorem d_Mo_has_0 : decode prog_12_method_8_code 0 = .ok (.aload_n 0, 1) := by decide +kernel
theorem d_Mo_has_1 : decode prog_12_method_8_code 1 = .ok (.iload_n 1, 1) := by decide +kernel
theorem d_Mo_has_2 : decode prog_12_method_8_code 2 = .ok (.iload_n 2, 1) := by decide +kernel
theorem d_Mo_has_3 : decode prog_12_method_8_code 3 = .ok (.invokevirtual 70, 3) := by decide +kernel
theorem d_Mo_has_6 : decode prog_12_method_8_code 6 = .ok (.ifCond .le 7, 3) := by decide +kernel
theorem d_Mo_has_9 : decode prog_12_method_8_code 9 = .ok (.iconst 1, 1) := by decide +kernel
theorem d_Mo_has_10 : decode prog_12_method_8_code 10 = .ok (.goto 4, 3) := by decide +kernel
theorem d_Mo_has_13 : decode prog_12_method_8_code 13 = .ok (.iconst 0, 1) := by decide +kernel
theorem d_Mo_has_14 : decode prog_12_method_8_code 14 = .ok (.ireturn, 1) := by decide +kernel
theorem d_Mo_signOf_0 : decode prog_12_method_7_code 0 = .ok (.iload_n 1, 1) := by decide +kernel
theorem d_Mo_signOf_1 : decode prog_12_method_7_code 1 = .ok (.iconst 0, 1) := by decide +kernel
theorem d_Mo_signOf_2 : decode prog_12_method_7_code 2 = .ok (.aload_n 0, 1) := by decide +kernel
theorem d_Mo_signOf_3 : decode prog_12_method_7_code 3 = .ok (.getfield 59, 3) := by decide +kernel
theorem d_Mo_signOf_6 : decode prog_12_method_7_code 6 = .ok (.iconst 1, 1) := by decide +kernel
theorem d_Mo_signOf_7 : decode prog_12_method_7_code 7 = .ok (.isub, 1) := by decide +kernel
theorem d_Mo_signOf_8 : decode prog_12_method_7_code 8 = .ok (.invokestatic 66, 3) := by decide +kernel
theorem d_Mo_signOf_11 : decode prog_12_method_7_code 11 = .ok (.ifCond .eq 17, 3) := by decide +kernel
theorem d_Mo_signOf_14 : decode prog_12_method_7_code 14 = .ok (.aload_n 0, 1) := by decide +kernel
theorem d_Mo_signOf_15 : decode prog_12_method_7_code 15 = .ok (.getfield 19, 3) := by decide +kernel
theorem d_Mo_signOf_18 : decode prog_12_method_7_code 18 = .ok (.bipush 10, 2) := by decide +kernel
theorem d_Mo_signOf_20 : decode prog_12_method_7_code 20 = .ok (.iload_n 1, 1) := by decide +kernel
theorem d_Mo_signOf_21 : decode prog_12_method_7_code 21 = .ok (.imul, 1) := by decide +kernel
theorem d_Mo_signOf_22 : decode prog_12_method_7_code 22 = .ok (.iload_n 2, 1) := by decide +kernel
theorem d_Mo_signOf_23 : decode prog_12_method_7_code 23 = .ok (.iadd, 1) := by decide +kernel
theorem d_Mo_signOf_24 : decode prog_12_method_7_code 24 = .ok (.iaload, 1) := by decide +kernel
theorem d_Mo_signOf_25 : decode prog_12_method_7_code 25 = .ok (.goto 4, 3) := by decide +kernel
theorem d_Mo_signOf_28 : decode prog_12_method_7_code 28 = .ok (.iconst 0, 1) := by decide +kernel
theorem d_Mo_signOf_29 : decode prog_12_method_7_code 29 = .ok (.ireturn, 1) := by decide +kernel
theorem d_Mo_lastStart_0 : decode prog_12_method_15_code 0 = .ok (.iconst (-1), 1) := by decide +kernel
theorem d_Mo_lastStart_1 : decode prog_12_method_15_code 1 = .ok (.istore_n 3, 1) := by decide +kernel
theorem d_Mo_lastStart_2 : decode prog_12_method_15_code 2 = .ok (.iload_n 1, 1) := by decide +kernel
theorem d_Mo_lastStart_3 : decode prog_12_method_15_code 3 = .ok (.istore 4, 2) := by decide +kernel
theorem d_Mo_lastStart_5 : decode prog_12_method_15_code 5 = .ok (.iload 4, 2) := by decide +kernel
theorem d_Mo_lastStart_7 : decode prog_12_method_15_code 7 = .ok (.iload_n 2, 1) := by decide +kernel
theorem d_Mo_lastStart_8 : decode prog_12_method_15_code 8 = .ok (.if_icmp .gt 26, 3) := by decide +kernel
theorem d_Mo_lastStart_11 : decode prog_12_method_15_code 11 = .ok (.aload_n 0, 1) := by decide +kernel
theorem d_Mo_lastStart_12 : decode prog_12_method_15_code 12 = .ok (.iload 4, 2) := by decide +kernel
theorem d_Mo_lastStart_14 : decode prog_12_method_15_code 14 = .ok (.iconst 0, 1) := by decide +kernel
theorem d_Mo_lastStart_15 : decode prog_12_method_15_code 15 = .ok (.invokevirtual 90, 3) := by decide +kernel
theorem d_Mo_lastStart_18 : decode prog_12_method_15_code 18 = .ok (.ifCond .eq 8, 3) := by decide +kernel
theorem d_Mo_lastStart_21 : decode prog_12_method_15_code 21 = .ok (.iload 4, 2) := by decide +kernel
theorem d_Mo_lastStart_23 : decode prog_12_method_15_code 23 = .ok (.goto 4, 3) := by decide +kernel
theorem d_Mo_lastStart_26 : decode prog_12_method_15_code 26 = .ok (.iload_n 3, 1) := by decide +kernel
theorem d_Mo_lastStart_27 : decode prog_12_method_15_code 27 = .ok (.istore_n 3, 1) := by decide +kernel
theorem d_Mo_lastStart_28 : decode prog_12_method_15_code 28 = .ok (.iinc 4 1, 3) := by decide +kernel
theorem d_Mo_lastStart_31 : decode prog_12_method_15_code 31 = .ok (.goto (-26), 3) := by decide +kernel
theorem d_Mo_lastStart_34 : decode prog_12_method_15_code 34 = .ok (.iload_n 3, 1) := by decide +kernel
theorem d_Mo_lastStart_35 : decode prog_12_method_15_code 35 = .ok (.ireturn, 1) := by decide +kernel
theorem d_Mo_lowest_0 : decode prog_12_method_16_code 0 = .ok (.iconst 0, 1) := by decide +kernel
theorem d_Mo_lowest_1 : decode prog_12_method_16_code 1 = .ok (.istore_n 2, 1) := by decide +kernel
theorem d_Mo_lowest_2 : decode prog_12_method_16_code 2 = .ok (.iload_n 1, 1) := by decide +kernel
theorem d_Mo_lowest_3 : decode prog_12_method_16_code 3 = .ok (.iload_n 2, 1) := by decide +kernel
theorem d_Mo_lowest_4 : decode prog_12_method_16_code 4 = .ok (.invokestatic 94, 3) := by decide +kernel
theorem d_Mo_lowest_7 : decode prog_12_method_16_code 7 = .ok (.ifCond .ne 9, 3) := by decide +kernel
theorem d_Mo_lowest_10 : decode prog_12_method_16_code 10 = .ok (.iinc 2 1, 3) := by decide +kernel
theorem d_Mo_lowest_13 : decode prog_12_method_16_code 13 = .ok (.goto (-11), 3) := by decide +kernel
theorem d_Mo_lowest_16 : decode prog_12_method_16_code 16 = .ok (.iload_n 2, 1) := by decide +kernel
theorem d_Mo_lowest_17 : decode prog_12_method_16_code 17 = .ok (.ireturn, 1) := by decide +kernel
theorem d_Mo_in_0 : decode prog_12_method_9_code 0 = .ok (.iload_n 1, 1) := by decide +kernel
theorem d_Mo_in_1 : decode prog_12_method_9_code 1 = .ok (.ifCond .lt 16, 3) := by decide +kernel
theorem d_Mo_in_4 : decode prog_12_method_9_code 4 = .ok (.iload_n 0, 1) := by decide +kernel
theorem d_Mo_in_5 : decode prog_12_method_9_code 5 = .ok (.iload_n 1, 1) := by decide +kernel
theorem d_Mo_in_6 : decode prog_12_method_9_code 6 = .ok (.ishr, 1) := by decide +kernel
theorem d_Mo_in_7 : decode prog_12_method_9_code 7 = .ok (.iconst 1, 1) := by decide +kernel
theorem d_Mo_in_8 : decode prog_12_method_9_code 8 = .ok (.iand, 1) := by decide +kernel
theorem d_Mo_in_9 : decode prog_12_method_9_code 9 = .ok (.iconst 1, 1) := by decide +kernel
theorem d_Mo_in_10 : decode prog_12_method_9_code 10 = .ok (.if_icmp .ne 7, 3) := by decide +kernel
theorem d_Mo_in_13 : decode prog_12_method_9_code 13 = .ok (.iconst 1, 1) := by decide +kernel
theorem d_Mo_in_14 : decode prog_12_method_9_code 14 = .ok (.goto 4, 3) := by decide +kernel
theorem d_Mo_in_17 : decode prog_12_method_9_code 17 = .ok (.iconst 0, 1) := by decide +kernel
theorem d_Mo_in_18 : decode prog_12_method_9_code 18 = .ok (.ireturn, 1) := by decide +kernel
theorem d_Mo_withEnding_0 : decode prog_12_method_18_code 0 = .ok (.iconst 0, 1) := by decide +kernel
theorem d_Mo_withEnding_1 : decode prog_12_method_18_code 1 = .ok (.istore_n 2, 1) := by decide +kernel
theorem d_Mo_withEnding_2 : decode prog_12_method_18_code 2 = .ok (.iload_n 2, 1) := by decide +kernel
theorem d_Mo_withEnding_3 : decode prog_12_method_18_code 3 = .ok (.aload_n 0, 1) := by decide +kernel
theorem d_Mo_withEnding_4 : decode prog_12_method_18_code 4 = .ok (.getfield 97, 3) := by decide +kernel
theorem d_Mo_withEnding_7 : decode prog_12_method_18_code 7 = .ok (.if_icmp .ge 24, 3) := by decide +kernel
theorem d_Mo_withEnding_10 : decode prog_12_method_18_code 10 = .ok (.aload_n 0, 1) := by decide +kernel
theorem d_Mo_withEnding_11 : decode prog_12_method_18_code 11 = .ok (.getfield 47, 3) := by decide +kernel
theorem d_Mo_withEnding_14 : decode prog_12_method_18_code 14 = .ok (.iload_n 2, 1) := by decide +kernel
theorem d_Mo_withEnding_15 : decode prog_12_method_18_code 15 = .ok (.iaload, 1) := by decide +kernel
theorem d_Mo_withEnding_16 : decode prog_12_method_18_code 16 = .ok (.iload_n 1, 1) := by decide +kernel
theorem d_Mo_withEnding_17 : decode prog_12_method_18_code 17 = .ok (.invokestatic 94, 3) := by decide +kernel
theorem d_Mo_withEnding_20 : decode prog_12_method_18_code 20 = .ok (.ifCond .eq 5, 3) := by decide +kernel
theorem d_Mo_withEnding_23 : decode prog_12_method_18_code 23 = .ok (.iload_n 2, 1) := by decide +kernel
theorem d_Mo_withEnding_24 : decode prog_12_method_18_code 24 = .ok (.ireturn, 1) := by decide +kernel
theorem d_Mo_withEnding_25 : decode prog_12_method_18_code 25 = .ok (.iinc 2 1, 3) := by decide +kernel
theorem d_Mo_withEnding_28 : decode prog_12_method_18_code 28 = .ok (.goto (-26), 3) := by decide +kernel
theorem d_Mo_withEnding_31 : decode prog_12_method_18_code 31 = .ok (.iconst (-1), 1) := by decide +kernel
theorem d_Mo_withEnding_32 : decode prog_12_method_18_code 32 = .ok (.ireturn, 1) := by decide +kernel
theorem d_Mo_checkStart_0 : decode prog_12_method_22_code 0 = .ok (.aload_n 0, 1) := by decide +kernel
theorem d_Mo_checkStart_1 : decode prog_12_method_22_code 1 = .ok (.iload_n 1, 1) := by decide +kernel
theorem d_Mo_checkStart_2 : decode prog_12_method_22_code 2 = .ok (.iconst 1, 1) := by decide +kernel
theorem d_Mo_checkStart_3 : decode prog_12_method_22_code 3 = .ok (.invokevirtual 90, 3) := by decide +kernel
theorem d_Mo_checkStart_6 : decode prog_12_method_22_code 6 = .ok (.istore_n 2, 1) := by decide +kernel
theorem d_Mo_checkStart_7 : decode prog_12_method_22_code 7 = .ok (.iconst 1, 1) := by decide +kernel
theorem d_Mo_checkStart_8 : decode prog_12_method_22_code 8 = .ok (.istore_n 3, 1) := by decide +kernel
theorem d_Mo_checkStart_9 : decode prog_12_method_22_code 9 = .ok (.iload_n 1, 1) := by decide +kernel
theorem d_Mo_checkStart_10 : decode prog_12_method_22_code 10 = .ok (.iconst 1, 1) := by decide +kernel
theorem d_Mo_checkStart_11 : decode prog_12_method_22_code 11 = .ok (.iadd, 1) := by decide +kernel
theorem d_Mo_checkStart_12 : decode prog_12_method_22_code 12 = .ok (.istore 4, 2) := by decide +kernel
theorem d_Mo_checkStart_14 : decode prog_12_method_22_code 14 = .ok (.iload 4, 2) := by decide +kernel
theorem d_Mo_checkStart_16 : decode prog_12_method_22_code 16 = .ok (.aload_n 0, 1) := by decide +kernel
theorem d_Mo_checkStart_17 : decode prog_12_method_22_code 17 = .ok (.getfield 59, 3) := by decide +kernel
theorem d_Mo_checkStart_20 : decode prog_12_method_22_code 20 = .ok (.if_icmp .ge 53, 3) := by decide +kernel
theorem d_Mo_checkStart_23 : decode prog_12_method_22_code 23 = .ok (.iload_n 3, 1) := by decide +kernel
theorem d_Mo_checkStart_24 : decode prog_12_method_22_code 24 = .ok (.ifCond .eq 17, 3) := by decide +kernel
theorem d_Mo_checkStart_27 : decode prog_12_method_22_code 27 = .ok (.aload_n 0, 1) := by decide +kernel
theorem d_Mo_checkStart_28 : decode prog_12_method_22_code 28 = .ok (.iload 4, 2) := by decide +kernel
theorem d_Mo_checkStart_30 : decode prog_12_method_22_code 30 = .ok (.iconst 0, 1) := by decide +kernel
theorem d_Mo_checkStart_31 : decode prog_12_method_22_code 31 = .ok (.invokevirtual 90, 3) := by decide +kernel
theorem d_Mo_checkStart_34 : decode prog_12_method_22_code 34 = .ok (.ifCond .ne 7, 3) := by decide +kernel
theorem d_Mo_checkStart_37 : decode prog_12_method_22_code 37 = .ok (.iconst 1, 1) := by decide +kernel
theorem d_Mo_checkStart_38 : decode prog_12_method_22_code 38 = .ok (.goto 4, 3) := by decide +kernel
theorem d_Mo_checkStart_41 : decode prog_12_method_22_code 41 = .ok (.iconst 0, 1) := by decide +kernel
theorem d_Mo_checkStart_42 : decode prog_12_method_22_code 42 = .ok (.istore_n 3, 1) := by decide +kernel
theorem d_Mo_checkStart_43 : decode prog_12_method_22_code 43 = .ok (.iload_n 2, 1) := by decide +kernel
theorem d_Mo_checkStart_44 : decode prog_12_method_22_code 44 = .ok (.ifCond .ne 17, 3) := by decide +kernel
theorem d_Mo_checkStart_47 : decode prog_12_method_22_code 47 = .ok (.iload_n 3, 1) := by decide +kernel
theorem d_Mo_checkStart_48 : decode prog_12_method_22_code 48 = .ok (.ifCond .eq 17, 3) := by decide +kernel
theorem d_Mo_checkStart_51 : decode prog_12_method_22_code 51 = .ok (.aload_n 0, 1) := by decide +kernel
theorem d_Mo_checkStart_52 : decode prog_12_method_22_code 52 = .ok (.iload 4, 2) := by decide +kernel
theorem d_Mo_checkStart_54 : decode prog_12_method_22_code 54 = .ok (.iconst 1, 1) := by decide +kernel
theorem d_Mo_checkStart_55 : decode prog_12_method_22_code 55 = .ok (.invokevirtual 90, 3) := by decide +kernel
theorem d_Mo_checkStart_58 : decode prog_12_method_22_code 58 = .ok (.ifCond .eq 7, 3) := by decide +kernel
theorem d_Mo_checkStart_61 : decode prog_12_method_22_code 61 = .ok (.iconst 1, 1) := by decide +kernel
theorem d_Mo_checkStart_62 : decode prog_12_method_22_code 62 = .ok (.goto 4, 3) := by decide +kernel
theorem d_Mo_checkStart_65 : decode prog_12_method_22_code 65 = .ok (.iconst 0, 1) := by decide +kernel
theorem d_Mo_checkStart_66 : decode prog_12_method_22_code 66 = .ok (.istore_n 2, 1) := by decide +kernel
theorem d_Mo_checkStart_67 : decode prog_12_method_22_code 67 = .ok (.iinc 4 1, 3) := by decide +kernel
theorem d_Mo_checkStart_70 : decode prog_12_method_22_code 70 = .ok (.goto (-56), 3) := by decide +kernel
theorem d_Mo_checkStart_73 : decode prog_12_method_22_code 73 = .ok (.aload_n 0, 1) := by decide +kernel
theorem d_Mo_checkStart_74 : decode prog_12_method_22_code 74 = .ok (.iload_n 2, 1) := by decide +kernel
theorem d_Mo_checkStart_75 : decode prog_12_method_22_code 75 = .ok (.ifCond .ne 7, 3) := by decide +kernel
theorem d_Mo_checkStart_78 : decode prog_12_method_22_code 78 = .ok (.iconst 1, 1) := by decide +kernel
theorem d_Mo_checkStart_79 : decode prog_12_method_22_code 79 = .ok (.goto 4, 3) := by decide +kernel
theorem d_Mo_checkStart_82 : decode prog_12_method_22_code 82 = .ok (.iconst 0, 1) := by decide +kernel
theorem d_Mo_checkStart_83 : decode prog_12_method_22_code 83 = .ok (.iconst 1, 1) := by decide +kernel
theorem d_Mo_checkStart_84 : decode prog_12_method_22_code 84 = .ok (.iload_n 1, 1) := by decide +kernel
theorem d_Mo_checkStart_85 : decode prog_12_method_22_code 85 = .ok (.invokevirtual 112, 3) := by decide +kernel
theorem d_Mo_checkStart_88 : decode prog_12_method_22_code 88 = .ok (.return_, 1) := by decide +kernel
theorem d_Mo_wrong_0 : decode prog_12_method_21_code 0 = .ok (.bipush 100, 2) := by decide +kernel
theorem d_Mo_wrong_2 : decode prog_12_method_21_code 2 = .ok (.iload_n 2, 1) := by decide +kernel
theorem d_Mo_wrong_3 : decode prog_12_method_21_code 3 = .ok (.imul, 1) := by decide +kernel
theorem d_Mo_wrong_4 : decode prog_12_method_21_code 4 = .ok (.iload_n 3, 1) := by decide +kernel
theorem d_Mo_wrong_5 : decode prog_12_method_21_code 5 = .ok (.iadd, 1) := by decide +kernel
theorem d_Mo_wrong_6 : decode prog_12_method_21_code 6 = .ok (.istore 4, 2) := by decide +kernel
theorem d_Mo_wrong_8 : decode prog_12_method_21_code 8 = .ok (.aload_n 0, 1) := by decide +kernel
theorem d_Mo_wrong_9 : decode prog_12_method_21_code 9 = .ok (.iload_n 1, 1) := by decide +kernel
theorem d_Mo_wrong_10 : decode prog_12_method_21_code 10 = .ok (.ifCond .eq 24, 3) := by decide +kernel
theorem d_Mo_wrong_13 : decode prog_12_method_21_code 13 = .ok (.aload_n 0, 1) := by decide +kernel
theorem d_Mo_wrong_14 : decode prog_12_method_21_code 14 = .ok (.getfield 109, 3) := by decide +kernel
theorem d_Mo_wrong_17 : decode prog_12_method_21_code 17 = .ok (.ifCond .eq 12, 3) := by decide +kernel
theorem d_Mo_wrong_20 : decode prog_12_method_21_code 20 = .ok (.iload 4, 2) := by decide +kernel
theorem d_Mo_wrong_22 : decode prog_12_method_21_code 22 = .ok (.aload_n 0, 1) := by decide +kernel
theorem d_Mo_wrong_23 : decode prog_12_method_21_code 23 = .ok (.getfield 109, 3) := by decide +kernel
theorem d_Mo_wrong_26 : decode prog_12_method_21_code 26 = .ok (.if_icmp .ge 8, 3) := by decide +kernel
theorem d_Mo_wrong_29 : decode prog_12_method_21_code 29 = .ok (.iload 4, 2) := by decide +kernel
theorem d_Mo_wrong_31 : decode prog_12_method_21_code 31 = .ok (.goto 7, 3) := by decide +kernel
theorem d_Mo_wrong_34 : decode prog_12_method_21_code 34 = .ok (.aload_n 0, 1) := by decide +kernel
theorem d_Mo_wrong_35 : decode prog_12_method_21_code 35 = .ok (.getfield 109, 3) := by decide +kernel
theorem d_Mo_wrong_38 : decode prog_12_method_21_code 38 = .ok (.putfield 109, 3) := by decide +kernel
theorem d_Mo_wrong_41 : decode prog_12_method_21_code 41 = .ok (.return_, 1) := by decide +kernel
theorem d_Mo_checkEnding_0 : decode prog_12_method_23_code 0 = .ok (.aload_n 0, 1) := by decide +kernel
theorem d_Mo_checkEnding_1 : decode prog_12_method_23_code 1 = .ok (.iload_n 1, 1) := by decide +kernel
theorem d_Mo_checkEnding_2 : decode prog_12_method_23_code 2 = .ok (.invokevirtual 106, 3) := by decide +kernel
theorem d_Mo_checkEnding_5 : decode prog_12_method_23_code 5 = .ok (.istore_n 2, 1) := by decide +kernel
theorem d_Mo_checkEnding_6 : decode prog_12_method_23_code 6 = .ok (.aload_n 0, 1) := by decide +kernel
theorem d_Mo_checkEnding_7 : decode prog_12_method_23_code 7 = .ok (.iload_n 2, 1) := by decide +kernel
theorem d_Mo_checkEnding_8 : decode prog_12_method_23_code 8 = .ok (.ifCond .lt 31, 3) := by decide +kernel
theorem d_Mo_checkEnding_11 : decode prog_12_method_23_code 11 = .ok (.iload_n 1, 1) := by decide +kernel
theorem d_Mo_checkEnding_12 : decode prog_12_method_23_code 12 = .ok (.aload_n 0, 1) := by decide +kernel
theorem d_Mo_checkEnding_13 : decode prog_12_method_23_code 13 = .ok (.aload_n 0, 1) := by decide +kernel
theorem d_Mo_checkEnding_14 : decode prog_12_method_23_code 14 = .ok (.getfield 44, 3) := by decide +kernel
theorem d_Mo_checkEnding_17 : decode prog_12_method_23_code 17 = .ok (.iload_n 2, 1) := by decide +kernel
theorem d_Mo_checkEnding_18 : decode prog_12_method_23_code 18 = .ok (.iaload, 1) := by decide +kernel
theorem d_Mo_checkEnding_19 : decode prog_12_method_23_code 19 = .ok (.invokevirtual 103, 3) := by decide +kernel
theorem d_Mo_checkEnding_22 : decode prog_12_method_23_code 22 = .ok (.if_icmp .gt 21, 3) := by decide +kernel
theorem d_Mo_checkEnding_25 : decode prog_12_method_23_code 25 = .ok (.iload_n 1, 1) := by decide +kernel
theorem d_Mo_checkEnding_26 : decode prog_12_method_23_code 26 = .ok (.aload_n 0, 1) := by decide +kernel
theorem d_Mo_checkEnding_27 : decode prog_12_method_23_code 27 = .ok (.aload_n 0, 1) := by decide +kernel
theorem d_Mo_checkEnding_28 : decode prog_12_method_23_code 28 = .ok (.getfield 47, 3) := by decide +kernel
theorem d_Mo_checkEnding_31 : decode prog_12_method_23_code 31 = .ok (.iload_n 2, 1) := by decide +kernel
theorem d_Mo_checkEnding_32 : decode prog_12_method_23_code 32 = .ok (.iaload, 1) := by decide +kernel
theorem d_Mo_checkEnding_33 : decode prog_12_method_23_code 33 = .ok (.invokevirtual 103, 3) := by decide +kernel
theorem d_Mo_checkEnding_36 : decode prog_12_method_23_code 36 = .ok (.if_icmp .le 7, 3) := by decide +kernel
theorem d_Mo_checkEnding_39 : decode prog_12_method_23_code 39 = .ok (.iconst 1, 1) := by decide +kernel
theorem d_Mo_checkEnding_40 : decode prog_12_method_23_code 40 = .ok (.goto 4, 3) := by decide +kernel
theorem d_Mo_checkEnding_43 : decode prog_12_method_23_code 43 = .ok (.iconst 0, 1) := by decide +kernel
theorem d_Mo_checkEnding_44 : decode prog_12_method_23_code 44 = .ok (.iconst 2, 1) := by decide +kernel
theorem d_Mo_checkEnding_45 : decode prog_12_method_23_code 45 = .ok (.iload_n 1, 1) := by decide +kernel
theorem d_Mo_checkEnding_46 : decode prog_12_method_23_code 46 = .ok (.invokevirtual 112, 3) := by decide +kernel
theorem d_Mo_checkEnding_49 : decode prog_12_method_23_code 49 = .ok (.return_, 1) := by decide +kernel
theorem d_Mo_isThere_0 : decode prog_12_method_25_code 0 = .ok (.iconst 0, 1) := by decide +kernel
theorem d_Mo_isThere_1 : decode prog_12_method_25_code 1 = .ok (.istore 4, 2) := by decide +kernel
theorem d_Mo_isThere_3 : decode prog_12_method_25_code 3 = .ok (.iload_n 2, 1) := by decide +kernel
theorem d_Mo_isThere_4 : decode prog_12_method_25_code 4 = .ok (.istore 5, 2) := by decide +kernel
theorem d_Mo_isThere_6 : decode prog_12_method_25_code 6 = .ok (.iload 5, 2) := by decide +kernel
theorem d_Mo_isThere_8 : decode prog_12_method_25_code 8 = .ok (.iload_n 3, 1) := by decide +kernel
theorem d_Mo_isThere_9 : decode prog_12_method_25_code 9 = .ok (.if_icmp .gt 31, 3) := by decide +kernel
theorem d_Mo_isThere_12 : decode prog_12_method_25_code 12 = .ok (.iload 4, 2) := by decide +kernel
theorem d_Mo_isThere_14 : decode prog_12_method_25_code 14 = .ok (.ifCond .ne 13, 3) := by decide +kernel
theorem d_Mo_isThere_17 : decode prog_12_method_25_code 17 = .ok (.aload_n 0, 1) := by decide +kernel
theorem d_Mo_isThere_18 : decode prog_12_method_25_code 18 = .ok (.iload 5, 2) := by decide +kernel
theorem d_Mo_isThere_20 : decode prog_12_method_25_code 20 = .ok (.iload_n 1, 1) := by decide +kernel
theorem d_Mo_isThere_21 : decode prog_12_method_25_code 21 = .ok (.invokevirtual 90, 3) := by decide +kernel
theorem d_Mo_isThere_24 : decode prog_12_method_25_code 24 = .ok (.ifCond .eq 7, 3) := by decide +kernel
theorem d_Mo_isThere_27 : decode prog_12_method_25_code 27 = .ok (.iconst 1, 1) := by decide +kernel
theorem d_Mo_isThere_28 : decode prog_12_method_25_code 28 = .ok (.goto 4, 3) := by decide +kernel
theorem d_Mo_isThere_31 : decode prog_12_method_25_code 31 = .ok (.iconst 0, 1) := by decide +kernel
theorem d_Mo_isThere_32 : decode prog_12_method_25_code 32 = .ok (.istore 4, 2) := by decide +kernel
theorem d_Mo_isThere_34 : decode prog_12_method_25_code 34 = .ok (.iinc 5 1, 3) := by decide +kernel
theorem d_Mo_isThere_37 : decode prog_12_method_25_code 37 = .ok (.goto (-31), 3) := by decide +kernel
theorem d_Mo_isThere_40 : decode prog_12_method_25_code 40 = .ok (.iload 4, 2) := by decide +kernel
theorem d_Mo_isThere_42 : decode prog_12_method_25_code 42 = .ok (.ireturn, 1) := by decide +kernel
theorem d_Mo_checkJump_0 : decode prog_12_method_27_code 0 = .ok (.aload_n 0, 1) := by decide +kernel
theorem d_Mo_checkJump_1 : decode prog_12_method_27_code 1 = .ok (.iload_n 1, 1) := by decide +kernel
theorem d_Mo_checkJump_2 : decode prog_12_method_27_code 2 = .ok (.bipush 7, 2) := by decide +kernel
theorem d_Mo_checkJump_4 : decode prog_12_method_27_code 4 = .ok (.invokevirtual 70, 3) := by decide +kernel
theorem d_Mo_checkJump_7 : decode prog_12_method_27_code 7 = .ok (.iconst 1, 1) := by decide +kernel
theorem d_Mo_checkJump_8 : decode prog_12_method_27_code 8 = .ok (.isub, 1) := by decide +kernel
theorem d_Mo_checkJump_9 : decode prog_12_method_27_code 9 = .ok (.istore_n 2, 1) := by decide +kernel
theorem d_Mo_checkJump_10 : decode prog_12_method_27_code 10 = .ok (.iload_n 2, 1) := by decide +kernel
theorem d_Mo_checkJump_11 : decode prog_12_method_27_code 11 = .ok (.iconst 2, 1) := by decide +kernel
theorem d_Mo_checkJump_12 : decode prog_12_method_27_code 12 = .ok (.irem, 1) := by decide +kernel
theorem d_Mo_checkJump_13 : decode prog_12_method_27_code 13 = .ok (.iconst 1, 1) := by decide +kernel
theorem d_Mo_checkJump_14 : decode prog_12_method_27_code 14 = .ok (.if_icmp .ne 7, 3) := by decide +kernel
theorem d_Mo_checkJump_17 : decode prog_12_method_27_code 17 = .ok (.iconst 1, 1) := by decide +kernel
theorem d_Mo_checkJump_18 : decode prog_12_method_27_code 18 = .ok (.goto 4, 3) := by decide +kernel
theorem d_Mo_checkJump_21 : decode prog_12_method_27_code 21 = .ok (.iconst 0, 1) := by decide +kernel
theorem d_Mo_checkJump_22 : decode prog_12_method_27_code 22 = .ok (.istore_n 3, 1) := by decide +kernel
theorem d_Mo_checkJump_23 : decode prog_12_method_27_code 23 = .ok (.iload_n 3, 1) := by decide +kernel
theorem d_Mo_checkJump_24 : decode prog_12_method_27_code 24 = .ok (.ifCond .eq 11, 3) := by decide +kernel
theorem d_Mo_checkJump_27 : decode prog_12_method_27_code 27 = .ok (.aload_n 0, 1) := by decide +kernel
theorem d_Mo_checkJump_28 : decode prog_12_method_27_code 28 = .ok (.iconst 3, 1) := by decide +kernel
theorem d_Mo_checkJump_29 : decode prog_12_method_27_code 29 = .ok (.invokevirtual 119, 3) := by decide +kernel
theorem d_Mo_checkJump_32 : decode prog_12_method_27_code 32 = .ok (.goto 4, 3) := by decide +kernel
theorem d_Mo_checkJump_35 : decode prog_12_method_27_code 35 = .ok (.iconst 0, 1) := by decide +kernel
theorem d_Mo_checkJump_36 : decode prog_12_method_27_code 36 = .ok (.istore 4, 2) := by decide +kernel
theorem d_Mo_checkJump_38 : decode prog_12_method_27_code 38 = .ok (.aload_n 0, 1) := by decide +kernel
theorem d_Mo_checkJump_39 : decode prog_12_method_27_code 39 = .ok (.iload 4, 2) := by decide +kernel
theorem d_Mo_checkJump_41 : decode prog_12_method_27_code 41 = .ok (.iload_n 1, 1) := by decide +kernel
theorem d_Mo_checkJump_42 : decode prog_12_method_27_code 42 = .ok (.if_icmp .le 7, 3) := by decide +kernel
theorem d_Mo_checkJump_45 : decode prog_12_method_27_code 45 = .ok (.iconst 1, 1) := by decide +kernel
theorem d_Mo_checkJump_46 : decode prog_12_method_27_code 46 = .ok (.goto 4, 3) := by decide +kernel
theorem d_Mo_checkJump_49 : decode prog_12_method_27_code 49 = .ok (.iconst 0, 1) := by decide +kernel
theorem d_Mo_checkJump_50 : decode prog_12_method_27_code 50 = .ok (.bipush 6, 2) := by decide +kernel
theorem d_Mo_checkJump_52 : decode prog_12_method_27_code 52 = .ok (.iload_n 1, 1) := by decide +kernel
theorem d_Mo_checkJump_53 : decode prog_12_method_27_code 53 = .ok (.invokevirtual 112, 3) := by decide +kernel
theorem d_Mo_checkJump_56 : decode prog_12_method_27_code 56 = .ok (.iload 4, 2) := by decide +kernel
theorem d_Mo_checkJump_58 : decode prog_12_method_27_code 58 = .ok (.iload_n 1, 1) := by decide +kernel
theorem d_Mo_checkJump_59 : decode prog_12_method_27_code 59 = .ok (.if_icmp .gt 86, 3) := by decide +kernel
theorem d_Mo_checkJump_62 : decode prog_12_method_27_code 62 = .ok (.iload_n 2, 1) := by decide +kernel
theorem d_Mo_checkJump_63 : decode prog_12_method_27_code 63 = .ok (.iconst 2, 1) := by decide +kernel
theorem d_Mo_checkJump_64 : decode prog_12_method_27_code 64 = .ok (.idiv, 1) := by decide +kernel
theorem d_Mo_checkJump_65 : decode prog_12_method_27_code 65 = .ok (.iconst 3, 1) := by decide +kernel
theorem d_Mo_checkJump_66 : decode prog_12_method_27_code 66 = .ok (.irem, 1) := by decide +kernel
theorem d_Mo_checkJump_67 : decode prog_12_method_27_code 67 = .ok (.istore 5, 2) := by decide +kernel
theorem d_Mo_checkJump_69 : decode prog_12_method_27_code 69 = .ok (.aload_n 0, 1) := by decide +kernel
theorem d_Mo_checkJump_70 : decode prog_12_method_27_code 70 = .ok (.iload 5, 2) := by decide +kernel
theorem d_Mo_checkJump_72 : decode prog_12_method_27_code 72 = .ok (.iconst 1, 1) := by decide +kernel
theorem d_Mo_checkJump_73 : decode prog_12_method_27_code 73 = .ok (.if_icmp .ne 18, 3) := by decide +kernel
theorem d_Mo_checkJump_76 : decode prog_12_method_27_code 76 = .ok (.aload_n 0, 1) := by decide +kernel
theorem d_Mo_checkJump_77 : decode prog_12_method_27_code 77 = .ok (.iconst 5, 1) := by decide +kernel
theorem d_Mo_checkJump_78 : decode prog_12_method_27_code 78 = .ok (.iload 4, 2) := by decide +kernel
theorem d_Mo_checkJump_80 : decode prog_12_method_27_code 80 = .ok (.iload_n 1, 1) := by decide +kernel
theorem d_Mo_checkJump_81 : decode prog_12_method_27_code 81 = .ok (.invokevirtual 122, 3) := by decide +kernel
theorem d_Mo_checkJump_84 : decode prog_12_method_27_code 84 = .ok (.ifCond .ne 7, 3) := by decide +kernel
theorem d_Mo_checkJump_87 : decode prog_12_method_27_code 87 = .ok (.iconst 1, 1) := by decide +kernel
theorem d_Mo_checkJump_88 : decode prog_12_method_27_code 88 = .ok (.goto 4, 3) := by decide +kernel
theorem d_Mo_checkJump_91 : decode prog_12_method_27_code 91 = .ok (.iconst 0, 1) := by decide +kernel
theorem d_Mo_checkJump_92 : decode prog_12_method_27_code 92 = .ok (.bipush 7, 2) := by decide +kernel
theorem d_Mo_checkJump_94 : decode prog_12_method_27_code 94 = .ok (.iload_n 1, 1) := by decide +kernel
theorem d_Mo_checkJump_95 : decode prog_12_method_27_code 95 = .ok (.invokevirtual 112, 3) := by decide +kernel
theorem d_Mo_checkJump_98 : decode prog_12_method_27_code 98 = .ok (.aload_n 0, 1) := by decide +kernel
theorem d_Mo_checkJump_99 : decode prog_12_method_27_code 99 = .ok (.iload 5, 2) := by decide +kernel
theorem d_Mo_checkJump_101 : decode prog_12_method_27_code 101 = .ok (.iconst 2, 1) := by decide +kernel
theorem d_Mo_checkJump_102 : decode prog_12_method_27_code 102 = .ok (.if_icmp .ne 36, 3) := by decide +kernel
theorem d_Mo_checkJump_105 : decode prog_12_method_27_code 105 = .ok (.aload_n 0, 1) := by decide +kernel
theorem d_Mo_checkJump_106 : decode prog_12_method_27_code 106 = .ok (.bipush 6, 2) := by decide +kernel
theorem d_Mo_checkJump_108 : decode prog_12_method_27_code 108 = .ok (.iload 4, 2) := by decide +kernel
theorem d_Mo_checkJump_110 : decode prog_12_method_27_code 110 = .ok (.iload_n 1, 1) := by decide +kernel
theorem d_Mo_checkJump_111 : decode prog_12_method_27_code 111 = .ok (.invokevirtual 122, 3) := by decide +kernel
theorem d_Mo_checkJump_114 : decode prog_12_method_27_code 114 = .ok (.ifCond .eq 20, 3) := by decide +kernel
theorem d_Mo_checkJump_117 : decode prog_12_method_27_code 117 = .ok (.aload_n 0, 1) := by decide +kernel
theorem d_Mo_checkJump_118 : decode prog_12_method_27_code 118 = .ok (.iconst 4, 1) := by decide +kernel
theorem d_Mo_checkJump_119 : decode prog_12_method_27_code 119 = .ok (.iload_n 1, 1) := by decide +kernel
theorem d_Mo_checkJump_120 : decode prog_12_method_27_code 120 = .ok (.iconst 1, 1) := by decide +kernel
theorem d_Mo_checkJump_121 : decode prog_12_method_27_code 121 = .ok (.iadd, 1) := by decide +kernel
theorem d_Mo_checkJump_122 : decode prog_12_method_27_code 122 = .ok (.aload_n 0, 1) := by decide +kernel
theorem d_Mo_checkJump_123 : decode prog_12_method_27_code 123 = .ok (.getfield 59, 3) := by decide +kernel
theorem d_Mo_checkJump_126 : decode prog_12_method_27_code 126 = .ok (.iconst 1, 1) := by decide +kernel
theorem d_Mo_checkJump_127 : decode prog_12_method_27_code 127 = .ok (.isub, 1) := by decide +kernel
theorem d_Mo_checkJump_128 : decode prog_12_method_27_code 128 = .ok (.invokevirtual 122, 3) := by decide +kernel
theorem d_Mo_checkJump_131 : decode prog_12_method_27_code 131 = .ok (.ifCond .ne 7, 3) := by decide +kernel
theorem d_Mo_checkJump_134 : decode prog_12_method_27_code 134 = .ok (.iconst 1, 1) := by decide +kernel
theorem d_Mo_checkJump_135 : decode prog_12_method_27_code 135 = .ok (.goto 4, 3) := by decide +kernel
theorem d_Mo_checkJump_138 : decode prog_12_method_27_code 138 = .ok (.iconst 0, 1) := by decide +kernel
theorem d_Mo_checkJump_139 : decode prog_12_method_27_code 139 = .ok (.bipush 7, 2) := by decide +kernel
theorem d_Mo_checkJump_141 : decode prog_12_method_27_code 141 = .ok (.iload_n 1, 1) := by decide +kernel
theorem d_Mo_checkJump_142 : decode prog_12_method_27_code 142 = .ok (.invokevirtual 112, 3) := by decide +kernel
theorem d_Mo_checkJump_145 : decode prog_12_method_27_code 145 = .ok (.return_, 1) := by decide +kernel
theorem d_Mo_firstOf_0 : decode prog_12_method_26_code 0 = .ok (.iconst 0, 1) := by decide +kernel
theorem d_Mo_firstOf_1 : decode prog_12_method_26_code 1 = .ok (.istore_n 2, 1) := by decide +kernel
theorem d_Mo_firstOf_2 : decode prog_12_method_26_code 2 = .ok (.iload_n 2, 1) := by decide +kernel
theorem d_Mo_firstOf_3 : decode prog_12_method_26_code 3 = .ok (.aload_n 0, 1) := by decide +kernel
theorem d_Mo_firstOf_4 : decode prog_12_method_26_code 4 = .ok (.getfield 59, 3) := by decide +kernel
theorem d_Mo_firstOf_7 : decode prog_12_method_26_code 7 = .ok (.if_icmp .ge 18, 3) := by decide +kernel
theorem d_Mo_firstOf_10 : decode prog_12_method_26_code 10 = .ok (.aload_n 0, 1) := by decide +kernel
theorem d_Mo_firstOf_11 : decode prog_12_method_26_code 11 = .ok (.iload_n 2, 1) := by decide +kernel
theorem d_Mo_firstOf_12 : decode prog_12_method_26_code 12 = .ok (.iload_n 1, 1) := by decide +kernel
theorem d_Mo_firstOf_13 : decode prog_12_method_26_code 13 = .ok (.invokevirtual 90, 3) := by decide +kernel
theorem d_Mo_firstOf_16 : decode prog_12_method_26_code 16 = .ok (.ifCond .ne 9, 3) := by decide +kernel
theorem d_Mo_firstOf_19 : decode prog_12_method_26_code 19 = .ok (.iinc 2 1, 3) := by decide +kernel
theorem d_Mo_firstOf_22 : decode prog_12_method_26_code 22 = .ok (.goto (-20), 3) := by decide +kernel
theorem d_Mo_firstOf_25 : decode prog_12_method_26_code 25 = .ok (.iload_n 2, 1) := by decide +kernel
theorem d_Mo_firstOf_26 : decode prog_12_method_26_code 26 = .ok (.ireturn, 1) := by decide +kernel
theorem d_Mo_checkRepeat_0 : decode prog_12_method_24_code 0 = .ok (.iconst 0, 1) := by decide +kernel
theorem d_Mo_checkRepeat_1 : decode prog_12_method_24_code 1 = .ok (.istore_n 2, 1) := by decide +kernel
theorem d_Mo_checkRepeat_2 : decode prog_12_method_24_code 2 = .ok (.iconst 0, 1) := by decide +kernel
theorem d_Mo_checkRepeat_3 : decode prog_12_method_24_code 3 = .ok (.istore_n 3, 1) := by decide +kernel
theorem d_Mo_checkRepeat_4 : decode prog_12_method_24_code 4 = .ok (.iconst 0, 1) := by decide +kernel
theorem d_Mo_checkRepeat_5 : decode prog_12_method_24_code 5 = .ok (.istore 4, 2) := by decide +kernel
theorem d_Mo_checkRepeat_7 : decode prog_12_method_24_code 7 = .ok (.iload 4, 2) := by decide +kernel
theorem d_Mo_checkRepeat_9 : decode prog_12_method_24_code 9 = .ok (.aload_n 0, 1) := by decide +kernel
theorem d_Mo_checkRepeat_10 : decode prog_12_method_24_code 10 = .ok (.getfield 59, 3) := by decide +kernel
theorem d_Mo_checkRepeat_13 : decode prog_12_method_24_code 13 = .ok (.if_icmp .ge 103, 3) := by decide +kernel
theorem d_Mo_checkRepeat_16 : decode prog_12_method_24_code 16 = .ok (.aload_n 0, 1) := by decide +kernel
theorem d_Mo_checkRepeat_17 : decode prog_12_method_24_code 17 = .ok (.getfield 44, 3) := by decide +kernel
theorem d_Mo_checkRepeat_20 : decode prog_12_method_24_code 20 = .ok (.iload_n 1, 1) := by decide +kernel
theorem d_Mo_checkRepeat_21 : decode prog_12_method_24_code 21 = .ok (.iaload, 1) := by decide +kernel
theorem d_Mo_checkRepeat_22 : decode prog_12_method_24_code 22 = .ok (.iload 4, 2) := by decide +kernel
theorem d_Mo_checkRepeat_24 : decode prog_12_method_24_code 24 = .ok (.invokestatic 94, 3) := by decide +kernel
theorem d_Mo_checkRepeat_27 : decode prog_12_method_24_code 27 = .ok (.ifCond .eq 47, 3) := by decide +kernel
theorem d_Mo_checkRepeat_30 : decode prog_12_method_24_code 30 = .ok (.aload_n 0, 1) := by decide +kernel
theorem d_Mo_checkRepeat_31 : decode prog_12_method_24_code 31 = .ok (.aload_n 0, 1) := by decide +kernel
theorem d_Mo_checkRepeat_32 : decode prog_12_method_24_code 32 = .ok (.iload 4, 2) := by decide +kernel
theorem d_Mo_checkRepeat_34 : decode prog_12_method_24_code 34 = .ok (.iconst 1, 1) := by decide +kernel
theorem d_Mo_checkRepeat_35 : decode prog_12_method_24_code 35 = .ok (.invokevirtual 70, 3) := by decide +kernel
theorem d_Mo_checkRepeat_38 : decode prog_12_method_24_code 38 = .ok (.aload_n 0, 1) := by decide +kernel
theorem d_Mo_checkRepeat_39 : decode prog_12_method_24_code 39 = .ok (.getfield 50, 3) := by decide +kernel
theorem d_Mo_checkRepeat_42 : decode prog_12_method_24_code 42 = .ok (.iload_n 1, 1) := by decide +kernel
theorem d_Mo_checkRepeat_43 : decode prog_12_method_24_code 43 = .ok (.iaload, 1) := by decide +kernel
theorem d_Mo_checkRepeat_44 : decode prog_12_method_24_code 44 = .ok (.if_icmp .ne 19, 3) := by decide +kernel
theorem d_Mo_checkRepeat_47 : decode prog_12_method_24_code 47 = .ok (.aload_n 0, 1) := by decide +kernel
theorem d_Mo_checkRepeat_48 : decode prog_12_method_24_code 48 = .ok (.getfield 47, 3) := by decide +kernel
theorem d_Mo_checkRepeat_51 : decode prog_12_method_24_code 51 = .ok (.iload_n 1, 1) := by decide +kernel
theorem d_Mo_checkRepeat_52 : decode prog_12_method_24_code 52 = .ok (.iaload, 1) := by decide +kernel
theorem d_Mo_checkRepeat_53 : decode prog_12_method_24_code 53 = .ok (.iload 4, 2) := by decide +kernel
theorem d_Mo_checkRepeat_55 : decode prog_12_method_24_code 55 = .ok (.iconst 1, 1) := by decide +kernel
theorem d_Mo_checkRepeat_56 : decode prog_12_method_24_code 56 = .ok (.iadd, 1) := by decide +kernel
theorem d_Mo_checkRepeat_57 : decode prog_12_method_24_code 57 = .ok (.invokestatic 94, 3) := by decide +kernel
theorem d_Mo_checkRepeat_60 : decode prog_12_method_24_code 60 = .ok (.ifCond .ne 7, 3) := by decide +kernel
theorem d_Mo_checkRepeat_63 : decode prog_12_method_24_code 63 = .ok (.iconst 1, 1) := by decide +kernel
theorem d_Mo_checkRepeat_64 : decode prog_12_method_24_code 64 = .ok (.goto 4, 3) := by decide +kernel
theorem d_Mo_checkRepeat_67 : decode prog_12_method_24_code 67 = .ok (.iconst 0, 1) := by decide +kernel
theorem d_Mo_checkRepeat_68 : decode prog_12_method_24_code 68 = .ok (.iconst 3, 1) := by decide +kernel
theorem d_Mo_checkRepeat_69 : decode prog_12_method_24_code 69 = .ok (.iload 4, 2) := by decide +kernel
theorem d_Mo_checkRepeat_71 : decode prog_12_method_24_code 71 = .ok (.invokevirtual 112, 3) := by decide +kernel
theorem d_Mo_checkRepeat_74 : decode prog_12_method_24_code 74 = .ok (.aload_n 0, 1) := by decide +kernel
theorem d_Mo_checkRepeat_75 : decode prog_12_method_24_code 75 = .ok (.getfield 47, 3) := by decide +kernel
theorem d_Mo_checkRepeat_78 : decode prog_12_method_24_code 78 = .ok (.iload_n 1, 1) := by decide +kernel
theorem d_Mo_checkRepeat_79 : decode prog_12_method_24_code 79 = .ok (.iaload, 1) := by decide +kernel
theorem d_Mo_checkRepeat_80 : decode prog_12_method_24_code 80 = .ok (.iload 4, 2) := by decide +kernel
theorem d_Mo_checkRepeat_82 : decode prog_12_method_24_code 82 = .ok (.invokestatic 94, 3) := by decide +kernel
theorem d_Mo_checkRepeat_85 : decode prog_12_method_24_code 85 = .ok (.ifCond .eq 25, 3) := by decide +kernel
theorem d_Mo_checkRepeat_88 : decode prog_12_method_24_code 88 = .ok (.iload_n 3, 1) := by decide +kernel
theorem d_Mo_checkRepeat_89 : decode prog_12_method_24_code 89 = .ok (.iload_n 2, 1) := by decide +kernel
theorem d_Mo_checkRepeat_90 : decode prog_12_method_24_code 90 = .ok (.aload_n 0, 1) := by decide +kernel
theorem d_Mo_checkRepeat_91 : decode prog_12_method_24_code 91 = .ok (.iload 4, 2) := by decide +kernel
theorem d_Mo_checkRepeat_93 : decode prog_12_method_24_code 93 = .ok (.iconst 2, 1) := by decide +kernel
theorem d_Mo_checkRepeat_94 : decode prog_12_method_24_code 94 = .ok (.invokevirtual 70, 3) := by decide +kernel
theorem d_Mo_checkRepeat_97 : decode prog_12_method_24_code 97 = .ok (.iand, 1) := by decide +kernel
theorem d_Mo_checkRepeat_98 : decode prog_12_method_24_code 98 = .ok (.ior, 1) := by decide +kernel
theorem d_Mo_checkRepeat_99 : decode prog_12_method_24_code 99 = .ok (.istore_n 3, 1) := by decide +kernel
theorem d_Mo_checkRepeat_100 : decode prog_12_method_24_code 100 = .ok (.iload_n 2, 1) := by decide +kernel
theorem d_Mo_checkRepeat_101 : decode prog_12_method_24_code 101 = .ok (.aload_n 0, 1) := by decide +kernel
theorem d_Mo_checkRepeat_102 : decode prog_12_method_24_code 102 = .ok (.iload 4, 2) := by decide +kernel
theorem d_Mo_checkRepeat_104 : decode prog_12_method_24_code 104 = .ok (.iconst 2, 1) := by decide +kernel
theorem d_Mo_checkRepeat_105 : decode prog_12_method_24_code 105 = .ok (.invokevirtual 70, 3) := by decide +kernel
theorem d_Mo_checkRepeat_108 : decode prog_12_method_24_code 108 = .ok (.ior, 1) := by decide +kernel
theorem d_Mo_checkRepeat_109 : decode prog_12_method_24_code 109 = .ok (.istore_n 2, 1) := by decide +kernel
theorem d_Mo_checkRepeat_110 : decode prog_12_method_24_code 110 = .ok (.iinc 4 1, 3) := by decide +kernel
theorem d_Mo_checkRepeat_113 : decode prog_12_method_24_code 113 = .ok (.goto (-106), 3) := by decide +kernel
theorem d_Mo_checkRepeat_116 : decode prog_12_method_24_code 116 = .ok (.aload_n 0, 1) := by decide +kernel
theorem d_Mo_checkRepeat_117 : decode prog_12_method_24_code 117 = .ok (.aload_n 0, 1) := by decide +kernel
theorem d_Mo_checkRepeat_118 : decode prog_12_method_24_code 118 = .ok (.aload_n 0, 1) := by decide +kernel
theorem d_Mo_checkRepeat_119 : decode prog_12_method_24_code 119 = .ok (.getfield 47, 3) := by decide +kernel
theorem d_Mo_checkRepeat_122 : decode prog_12_method_24_code 122 = .ok (.iload_n 1, 1) := by decide +kernel
theorem d_Mo_checkRepeat_123 : decode prog_12_method_24_code 123 = .ok (.iaload, 1) := by decide +kernel
theorem d_Mo_checkRepeat_124 : decode prog_12_method_24_code 124 = .ok (.invokevirtual 116, 3) := by decide +kernel
theorem d_Mo_checkRepeat_127 : decode prog_12_method_24_code 127 = .ok (.iconst 2, 1) := by decide +kernel
theorem d_Mo_checkRepeat_128 : decode prog_12_method_24_code 128 = .ok (.invokevirtual 70, 3) := by decide +kernel
theorem d_Mo_checkRepeat_131 : decode prog_12_method_24_code 131 = .ok (.istore 4, 2) := by decide +kernel
theorem d_Mo_checkRepeat_133 : decode prog_12_method_24_code 133 = .ok (.aload_n 0, 1) := by decide +kernel
theorem d_Mo_checkRepeat_134 : decode prog_12_method_24_code 134 = .ok (.iload_n 3, 1) := by decide +kernel
theorem d_Mo_checkRepeat_135 : decode prog_12_method_24_code 135 = .ok (.ifCond .ne 33, 3) := by decide +kernel
theorem d_Mo_checkRepeat_138 : decode prog_12_method_24_code 138 = .ok (.iload_n 2, 1) := by decide +kernel
theorem d_Mo_checkRepeat_139 : decode prog_12_method_24_code 139 = .ok (.iconst 1, 1) := by decide +kernel
theorem d_Mo_checkRepeat_140 : decode prog_12_method_24_code 140 = .ok (.aload_n 0, 1) := by decide +kernel
theorem d_Mo_checkRepeat_141 : decode prog_12_method_24_code 141 = .ok (.getfield 50, 3) := by decide +kernel
theorem d_Mo_checkRepeat_144 : decode prog_12_method_24_code 144 = .ok (.iload_n 1, 1) := by decide +kernel
theorem d_Mo_checkRepeat_145 : decode prog_12_method_24_code 145 = .ok (.iaload, 1) := by decide +kernel
theorem d_Mo_checkRepeat_146 : decode prog_12_method_24_code 146 = .ok (.ishl, 1) := by decide +kernel
theorem d_Mo_checkRepeat_147 : decode prog_12_method_24_code 147 = .ok (.iconst 1, 1) := by decide +kernel
theorem d_Mo_checkRepeat_148 : decode prog_12_method_24_code 148 = .ok (.isub, 1) := by decide +kernel
theorem d_Mo_checkRepeat_149 : decode prog_12_method_24_code 149 = .ok (.if_icmp .ne 19, 3) := by decide +kernel
theorem d_Mo_checkRepeat_152 : decode prog_12_method_24_code 152 = .ok (.iload 4, 2) := by decide +kernel
theorem d_Mo_checkRepeat_154 : decode prog_12_method_24_code 154 = .ok (.aload_n 0, 1) := by decide +kernel
theorem d_Mo_checkRepeat_155 : decode prog_12_method_24_code 155 = .ok (.getfield 50, 3) := by decide +kernel
theorem d_Mo_checkRepeat_158 : decode prog_12_method_24_code 158 = .ok (.iload_n 1, 1) := by decide +kernel
theorem d_Mo_checkRepeat_159 : decode prog_12_method_24_code 159 = .ok (.iaload, 1) := by decide +kernel
theorem d_Mo_checkRepeat_160 : decode prog_12_method_24_code 160 = .ok (.iconst 1, 1) := by decide +kernel
theorem d_Mo_checkRepeat_161 : decode prog_12_method_24_code 161 = .ok (.isub, 1) := by decide +kernel
theorem d_Mo_checkRepeat_162 : decode prog_12_method_24_code 162 = .ok (.invokestatic 94, 3) := by decide +kernel
theorem d_Mo_checkRepeat_165 : decode prog_12_method_24_code 165 = .ok (.ifCond .ne 7, 3) := by decide +kernel
theorem d_Mo_checkRepeat_168 : decode prog_12_method_24_code 168 = .ok (.iconst 1, 1) := by decide +kernel
theorem d_Mo_checkRepeat_169 : decode prog_12_method_24_code 169 = .ok (.goto 4, 3) := by decide +kernel
theorem d_Mo_checkRepeat_172 : decode prog_12_method_24_code 172 = .ok (.iconst 0, 1) := by decide +kernel
theorem d_Mo_checkRepeat_173 : decode prog_12_method_24_code 173 = .ok (.iconst 4, 1) := by decide +kernel
theorem d_Mo_checkRepeat_174 : decode prog_12_method_24_code 174 = .ok (.aload_n 0, 1) := by decide +kernel
theorem d_Mo_checkRepeat_175 : decode prog_12_method_24_code 175 = .ok (.getfield 41, 3) := by decide +kernel
theorem d_Mo_checkRepeat_178 : decode prog_12_method_24_code 178 = .ok (.iload_n 1, 1) := by decide +kernel
theorem d_Mo_checkRepeat_179 : decode prog_12_method_24_code 179 = .ok (.iaload, 1) := by decide +kernel
theorem d_Mo_checkRepeat_180 : decode prog_12_method_24_code 180 = .ok (.invokevirtual 112, 3) := by decide +kernel
theorem d_Mo_checkRepeat_183 : decode prog_12_method_24_code 183 = .ok (.return_, 1) := by decide +kernel
theorem d_Mo_highest_0 : decode prog_12_method_17_code 0 = .ok (.bipush 31, 2) := by decide +kernel
theorem d_Mo_highest_2 : decode prog_12_method_17_code 2 = .ok (.istore_n 2, 1) := by decide +kernel
theorem d_Mo_highest_3 : decode prog_12_method_17_code 3 = .ok (.iload_n 1, 1) := by decide +kernel
theorem d_Mo_highest_4 : decode prog_12_method_17_code 4 = .ok (.iload_n 2, 1) := by decide +kernel
theorem d_Mo_highest_5 : decode prog_12_method_17_code 5 = .ok (.invokestatic 94, 3) := by decide +kernel
theorem d_Mo_highest_8 : decode prog_12_method_17_code 8 = .ok (.ifCond .ne 9, 3) := by decide +kernel
theorem d_Mo_highest_11 : decode prog_12_method_17_code 11 = .ok (.iinc 2 (-1), 3) := by decide +kernel
theorem d_Mo_highest_14 : decode prog_12_method_17_code 14 = .ok (.goto (-11), 3) := by decide +kernel
theorem d_Mo_highest_17 : decode prog_12_method_17_code 17 = .ok (.iload_n 2, 1) := by decide +kernel
theorem d_Mo_highest_18 : decode prog_12_method_17_code 18 = .ok (.ireturn, 1) := by decide +kernel
theorem d_Mo_plays_0 : decode prog_12_method_37_code 0 = .ok (.aload_n 0, 1) := by decide +kernel
theorem d_Mo_plays_1 : decode prog_12_method_37_code 1 = .ok (.iconst 0, 1) := by decide +kernel
theorem d_Mo_plays_2 : decode prog_12_method_37_code 2 = .ok (.putfield 63, 3) := by decide +kernel
theorem d_Mo_plays_5 : decode prog_12_method_37_code 5 = .ok (.aload_n 0, 1) := by decide +kernel
theorem d_Mo_plays_6 : decode prog_12_method_37_code 6 = .ok (.invokevirtual 183, 3) := by decide +kernel
theorem d_Mo_plays_9 : decode prog_12_method_37_code 9 = .ok (.ifCond .eq 10, 3) := by decide +kernel
theorem d_Mo_plays_12 : decode prog_12_method_37_code 12 = .ok (.aload_n 0, 1) := by decide +kernel
theorem d_Mo_plays_13 : decode prog_12_method_37_code 13 = .ok (.getfield 159, 3) := by decide +kernel
theorem d_Mo_plays_16 : decode prog_12_method_37_code 16 = .ok (.goto 4, 3) := by decide +kernel
theorem d_Mo_plays_19 : decode prog_12_method_37_code 19 = .ok (.iconst (-1), 1) := by decide +kernel
theorem d_Mo_plays_20 : decode prog_12_method_37_code 20 = .ok (.ireturn, 1) := by decide +kernel
theorem d_Mo_walk_0 : decode prog_12_method_36_code 0 = .ok (.aload_n 0, 1) := by decide +kernel
theorem d_Mo_walk_1 : decode prog_12_method_36_code 1 = .ok (.invokevirtual 141, 3) := by decide +kernel
theorem d_Mo_walk_4 : decode prog_12_method_36_code 4 = .ok (.ifCond .le 5, 3) := by decide +kernel
theorem d_Mo_walk_7 : decode prog_12_method_36_code 7 = .ok (.iconst 0, 1) := by decide +kernel
theorem d_Mo_walk_8 : decode prog_12_method_36_code 8 = .ok (.ireturn, 1) := by decide +kernel
theorem d_Mo_walk_9 : decode prog_12_method_36_code 9 = .ok (.aload_n 0, 1) := by decide +kernel
theorem d_Mo_walk_10 : decode prog_12_method_36_code 10 = .ok (.iconst 0, 1) := by decide +kernel
theorem d_Mo_walk_11 : decode prog_12_method_36_code 11 = .ok (.putfield 159, 3) := by decide +kernel
theorem d_Mo_walk_14 : decode prog_12_method_36_code 14 = .ok (.aload_n 0, 1) := by decide +kernel
theorem d_Mo_walk_15 : decode prog_12_method_36_code 15 = .ok (.iconst (-1), 1) := by decide +kernel
theorem d_Mo_walk_16 : decode prog_12_method_36_code 16 = .ok (.putfield 145, 3) := by decide +kernel
theorem d_Mo_walk_19 : decode prog_12_method_36_code 19 = .ok (.aload_n 0, 1) := by decide +kernel
theorem d_Mo_walk_20 : decode prog_12_method_36_code 20 = .ok (.iconst 0, 1) := by decide +kernel
theorem d_Mo_walk_21 : decode prog_12_method_36_code 21 = .ok (.putfield 174, 3) := by decide +kernel
theorem d_Mo_walk_24 : decode prog_12_method_36_code 24 = .ok (.aload_n 0, 1) := by decide +kernel
theorem d_Mo_walk_25 : decode prog_12_method_36_code 25 = .ok (.invokevirtual 162, 3) := by decide +kernel
theorem d_Mo_walk_28 : decode prog_12_method_36_code 28 = .ok (.aload_n 0, 1) := by decide +kernel
theorem d_Mo_walk_29 : decode prog_12_method_36_code 29 = .ok (.iconst 0, 1) := by decide +kernel
theorem d_Mo_walk_30 : decode prog_12_method_36_code 30 = .ok (.invokevirtual 165, 3) := by decide +kernel
theorem d_Mo_walk_33 : decode prog_12_method_36_code 33 = .ok (.iconst 1, 1) := by decide +kernel
theorem d_Mo_walk_34 : decode prog_12_method_36_code 34 = .ok (.istore_n 1, 1) := by decide +kernel
theorem d_Mo_walk_35 : decode prog_12_method_36_code 35 = .ok (.iload_n 1, 1) := by decide +kernel
theorem d_Mo_walk_36 : decode prog_12_method_36_code 36 = .ok (.ifCond .eq 11, 3) := by decide +kernel
theorem d_Mo_walk_39 : decode prog_12_method_36_code 39 = .ok (.aload_n 0, 1) := by decide +kernel
theorem d_Mo_walk_40 : decode prog_12_method_36_code 40 = .ok (.invokevirtual 180, 3) := by decide +kernel
theorem d_Mo_walk_43 : decode prog_12_method_36_code 43 = .ok (.istore_n 1, 1) := by decide +kernel
theorem d_Mo_walk_44 : decode prog_12_method_36_code 44 = .ok (.goto (-9), 3) := by decide +kernel
theorem d_Mo_walk_47 : decode prog_12_method_36_code 47 = .ok (.iconst 1, 1) := by decide +kernel
theorem d_Mo_walk_48 : decode prog_12_method_36_code 48 = .ok (.ireturn, 1) := by decide +kernel
theorem d_Mo_resetPasses_0 : decode prog_12_method_32_code 0 = .ok (.iconst 0, 1) := by decide +kernel
theorem d_Mo_resetPasses_1 : decode prog_12_method_32_code 1 = .ok (.istore_n 1, 1) := by decide +kernel
theorem d_Mo_resetPasses_2 : decode prog_12_method_32_code 2 = .ok (.iload_n 1, 1) := by decide +kernel
theorem d_Mo_resetPasses_3 : decode prog_12_method_32_code 3 = .ok (.aload_n 0, 1) := by decide +kernel
theorem d_Mo_resetPasses_4 : decode prog_12_method_32_code 4 = .ok (.getfield 97, 3) := by decide +kernel
theorem d_Mo_resetPasses_7 : decode prog_12_method_32_code 7 = .ok (.if_icmp .ge 16, 3) := by decide +kernel
theorem d_Mo_resetPasses_10 : decode prog_12_method_32_code 10 = .ok (.aload_n 0, 1) := by decide +kernel
theorem d_Mo_resetPasses_11 : decode prog_12_method_32_code 11 = .ok (.getfield 53, 3) := by decide +kernel
theorem d_Mo_resetPasses_14 : decode prog_12_method_32_code 14 = .ok (.iload_n 1, 1) := by decide +kernel
theorem d_Mo_resetPasses_15 : decode prog_12_method_32_code 15 = .ok (.iconst 1, 1) := by decide +kernel
theorem d_Mo_resetPasses_16 : decode prog_12_method_32_code 16 = .ok (.iastore, 1) := by decide +kernel
theorem d_Mo_resetPasses_17 : decode prog_12_method_32_code 17 = .ok (.iinc 1 1, 3) := by decide +kernel
theorem d_Mo_resetPasses_20 : decode prog_12_method_32_code 20 = .ok (.goto (-18), 3) := by decide +kernel
theorem d_Mo_resetPasses_23 : decode prog_12_method_32_code 23 = .ok (.return_, 1) := by decide +kernel
theorem d_Mo_come_0 : decode prog_12_method_33_code 0 = .ok (.aload_n 0, 1) := by decide +kernel
theorem d_Mo_come_1 : decode prog_12_method_33_code 1 = .ok (.iload_n 1, 1) := by decide +kernel
theorem d_Mo_come_2 : decode prog_12_method_33_code 2 = .ok (.putfield 148, 3) := by decide +kernel
theorem d_Mo_come_5 : decode prog_12_method_33_code 5 = .ok (.aload_n 0, 1) := by decide +kernel
theorem d_Mo_come_6 : decode prog_12_method_33_code 6 = .ok (.iload_n 1, 1) := by decide +kernel
theorem d_Mo_come_7 : decode prog_12_method_33_code 7 = .ok (.invokevirtual 106, 3) := by decide +kernel
theorem d_Mo_come_10 : decode prog_12_method_33_code 10 = .ok (.istore_n 2, 1) := by decide +kernel
theorem d_Mo_come_11 : decode prog_12_method_33_code 11 = .ok (.iload_n 2, 1) := by decide +kernel
theorem d_Mo_come_12 : decode prog_12_method_33_code 12 = .ok (.ifCond .lt 135, 3) := by decide +kernel
theorem d_Mo_come_15 : decode prog_12_method_33_code 15 = .ok (.aload_n 0, 1) := by decide +kernel
theorem d_Mo_come_16 : decode prog_12_method_33_code 16 = .ok (.invokevirtual 151, 3) := by decide +kernel
theorem d_Mo_come_19 : decode prog_12_method_33_code 19 = .ok (.ifCond .eq 14, 3) := by decide +kernel
theorem d_Mo_come_22 : decode prog_12_method_33_code 22 = .ok (.aload_n 0, 1) := by decide +kernel
theorem d_Mo_come_23 : decode prog_12_method_33_code 23 = .ok (.getfield 53, 3) := by decide +kernel
theorem d_Mo_come_26 : decode prog_12_method_33_code 26 = .ok (.iload_n 2, 1) := by decide +kernel
theorem d_Mo_come_27 : decode prog_12_method_33_code 27 = .ok (.iaload, 1) := by decide +kernel
theorem d_Mo_come_28 : decode prog_12_method_33_code 28 = .ok (.iconst 1, 1) := by decide +kernel
theorem d_Mo_come_29 : decode prog_12_method_33_code 29 = .ok (.isub, 1) := by decide +kernel
theorem d_Mo_come_30 : decode prog_12_method_33_code 30 = .ok (.goto 11, 3) := by decide +kernel
theorem d_Mo_come_33 : decode prog_12_method_33_code 33 = .ok (.aload_n 0, 1) := by decide +kernel
theorem d_Mo_come_34 : decode prog_12_method_33_code 34 = .ok (.getfield 50, 3) := by decide +kernel
theorem d_Mo_come_37 : decode prog_12_method_33_code 37 = .ok (.iload_n 2, 1) := by decide +kernel
theorem d_Mo_come_38 : decode prog_12_method_33_code 38 = .ok (.iaload, 1) := by decide +kernel
theorem d_Mo_come_39 : decode prog_12_method_33_code 39 = .ok (.iconst 1, 1) := by decide +kernel
theorem d_Mo_come_40 : decode prog_12_method_33_code 40 = .ok (.isub, 1) := by decide +kernel
theorem d_Mo_come_41 : decode prog_12_method_33_code 41 = .ok (.istore_n 3, 1) := by decide +kernel
theorem d_Mo_come_42 : decode prog_12_method_33_code 42 = .ok (.aload_n 0, 1) := by decide +kernel
theorem d_Mo_come_43 : decode prog_12_method_33_code 43 = .ok (.aload_n 0, 1) := by decide +kernel
theorem d_Mo_come_44 : decode prog_12_method_33_code 44 = .ok (.getfield 47, 3) := by decide +kernel
theorem d_Mo_come_47 : decode prog_12_method_33_code 47 = .ok (.iload_n 2, 1) := by decide +kernel
theorem d_Mo_come_48 : decode prog_12_method_33_code 48 = .ok (.iaload, 1) := by decide +kernel
theorem d_Mo_come_49 : decode prog_12_method_33_code 49 = .ok (.invokevirtual 116, 3) := by decide +kernel
theorem d_Mo_come_52 : decode prog_12_method_33_code 52 = .ok (.istore 4, 2) := by decide +kernel
theorem d_Mo_come_54 : decode prog_12_method_33_code 54 = .ok (.aload_n 0, 1) := by decide +kernel
theorem d_Mo_come_55 : decode prog_12_method_33_code 55 = .ok (.getfield 148, 3) := by decide +kernel
theorem d_Mo_come_58 : decode prog_12_method_33_code 58 = .ok (.iload 4, 2) := by decide +kernel
theorem d_Mo_come_60 : decode prog_12_method_33_code 60 = .ok (.if_icmp .ge 48, 3) := by decide +kernel
theorem d_Mo_come_63 : decode prog_12_method_33_code 63 = .ok (.aload_n 0, 1) := by decide +kernel
theorem d_Mo_come_64 : decode prog_12_method_33_code 64 = .ok (.getfield 47, 3) := by decide +kernel
theorem d_Mo_come_67 : decode prog_12_method_33_code 67 = .ok (.iload_n 2, 1) := by decide +kernel
theorem d_Mo_come_68 : decode prog_12_method_33_code 68 = .ok (.iaload, 1) := by decide +kernel
theorem d_Mo_come_69 : decode prog_12_method_33_code 69 = .ok (.aload_n 0, 1) := by decide +kernel
theorem d_Mo_come_70 : decode prog_12_method_33_code 70 = .ok (.getfield 148, 3) := by decide +kernel
theorem d_Mo_come_73 : decode prog_12_method_33_code 73 = .ok (.invokestatic 94, 3) := by decide +kernel
theorem d_Mo_come_76 : decode prog_12_method_33_code 76 = .ok (.ifCond .eq 19, 3) := by decide +kernel
theorem d_Mo_come_79 : decode prog_12_method_33_code 79 = .ok (.aload_n 0, 1) := by decide +kernel
theorem d_Mo_come_80 : decode prog_12_method_33_code 80 = .ok (.aload_n 0, 1) := by decide +kernel
theorem d_Mo_come_81 : decode prog_12_method_33_code 81 = .ok (.getfield 148, 3) := by decide +kernel
theorem d_Mo_come_84 : decode prog_12_method_33_code 84 = .ok (.iconst 2, 1) := by decide +kernel
theorem d_Mo_come_85 : decode prog_12_method_33_code 85 = .ok (.invokevirtual 70, 3) := by decide +kernel
theorem d_Mo_come_88 : decode prog_12_method_33_code 88 = .ok (.iload_n 3, 1) := by decide +kernel
theorem d_Mo_come_89 : decode prog_12_method_33_code 89 = .ok (.invokestatic 94, 3) := by decide +kernel
theorem d_Mo_come_92 : decode prog_12_method_33_code 92 = .ok (.ifCond .ne 16, 3) := by decide +kernel
theorem d_Mo_come_95 : decode prog_12_method_33_code 95 = .ok (.aload_n 0, 1) := by decide +kernel
theorem d_Mo_come_96 : decode prog_12_method_33_code 96 = .ok (.dup, 1) := by decide +kernel
theorem d_Mo_come_97 : decode prog_12_method_33_code 97 = .ok (.getfield 148, 3) := by decide +kernel
theorem d_Mo_come_100 : decode prog_12_method_33_code 100 = .ok (.iconst 1, 1) := by decide +kernel
theorem d_Mo_come_101 : decode prog_12_method_33_code 101 = .ok (.iadd, 1) := by decide +kernel
theorem d_Mo_come_102 : decode prog_12_method_33_code 102 = .ok (.putfield 148, 3) := by decide +kernel
theorem d_Mo_come_105 : decode prog_12_method_33_code 105 = .ok (.goto (-51), 3) := by decide +kernel
theorem d_Mo_come_108 : decode prog_12_method_33_code 108 = .ok (.aload_n 0, 1) := by decide +kernel
theorem d_Mo_come_109 : decode prog_12_method_33_code 109 = .ok (.getfield 53, 3) := by decide +kernel
theorem d_Mo_come_112 : decode prog_12_method_33_code 112 = .ok (.iload_n 2, 1) := by decide +kernel
theorem d_Mo_come_113 : decode prog_12_method_33_code 113 = .ok (.aload_n 0, 1) := by decide +kernel
theorem d_Mo_come_114 : decode prog_12_method_33_code 114 = .ok (.aload_n 0, 1) := by decide +kernel
theorem d_Mo_come_115 : decode prog_12_method_33_code 115 = .ok (.getfield 148, 3) := by decide +kernel
theorem d_Mo_come_118 : decode prog_12_method_33_code 118 = .ok (.iconst 2, 1) := by decide +kernel
theorem d_Mo_come_119 : decode prog_12_method_33_code 119 = .ok (.invokevirtual 70, 3) := by decide +kernel
theorem d_Mo_come_122 : decode prog_12_method_33_code 122 = .ok (.aload_n 0, 1) := by decide +kernel
theorem d_Mo_come_123 : decode prog_12_method_33_code 123 = .ok (.getfield 50, 3) := by decide +kernel
theorem d_Mo_come_126 : decode prog_12_method_33_code 126 = .ok (.iload_n 2, 1) := by decide +kernel
theorem d_Mo_come_127 : decode prog_12_method_33_code 127 = .ok (.iaload, 1) := by decide +kernel
theorem d_Mo_come_128 : decode prog_12_method_33_code 128 = .ok (.iconst 1, 1) := by decide +kernel
theorem d_Mo_come_129 : decode prog_12_method_33_code 129 = .ok (.isub, 1) := by decide +kernel
theorem d_Mo_come_130 : decode prog_12_method_33_code 130 = .ok (.invokestatic 94, 3) := by decide +kernel
theorem d_Mo_come_133 : decode prog_12_method_33_code 133 = .ok (.ifCond .eq 7, 3) := by decide +kernel
theorem d_Mo_come_136 : decode prog_12_method_33_code 136 = .ok (.iconst 1, 1) := by decide +kernel
theorem d_Mo_come_137 : decode prog_12_method_33_code 137 = .ok (.goto 9, 3) := by decide +kernel
theorem d_Mo_come_140 : decode prog_12_method_33_code 140 = .ok (.aload_n 0, 1) := by decide +kernel
theorem d_Mo_come_141 : decode prog_12_method_33_code 141 = .ok (.getfield 53, 3) := by decide +kernel
theorem d_Mo_come_144 : decode prog_12_method_33_code 144 = .ok (.iload_n 2, 1) := by decide +kernel
theorem d_Mo_come_145 : decode prog_12_method_33_code 145 = .ok (.iaload, 1) := by decide +kernel
theorem d_Mo_come_146 : decode prog_12_method_33_code 146 = .ok (.iastore, 1) := by decide +kernel
theorem d_Mo_come_147 : decode prog_12_method_33_code 147 = .ok (.aload_n 0, 1) := by decide +kernel
theorem d_Mo_come_148 : decode prog_12_method_33_code 148 = .ok (.iconst 0, 1) := by decide +kernel
theorem d_Mo_come_149 : decode prog_12_method_33_code 149 = .ok (.putfield 155, 3) := by decide +kernel
theorem d_Mo_come_152 : decode prog_12_method_33_code 152 = .ok (.iconst 0, 1) := by decide +kernel
theorem d_Mo_come_153 : decode prog_12_method_33_code 153 = .ok (.istore_n 3, 1) := by decide +kernel
theorem d_Mo_come_154 : decode prog_12_method_33_code 154 = .ok (.iload_n 3, 1) := by decide +kernel
theorem d_Mo_come_155 : decode prog_12_method_33_code 155 = .ok (.aload_n 0, 1) := by decide +kernel
theorem d_Mo_come_156 : decode prog_12_method_33_code 156 = .ok (.getfield 97, 3) := by decide +kernel
theorem d_Mo_come_159 : decode prog_12_method_33_code 159 = .ok (.if_icmp .ge 89, 3) := by decide +kernel
theorem d_Mo_come_162 : decode prog_12_method_33_code 162 = .ok (.aload_n 0, 1) := by decide +kernel
theorem d_Mo_come_163 : decode prog_12_method_33_code 163 = .ok (.invokevirtual 151, 3) := by decide +kernel
theorem d_Mo_come_166 : decode prog_12_method_33_code 166 = .ok (.ifCond .eq 82, 3) := by decide +kernel
theorem d_Mo_come_169 : decode prog_12_method_33_code 169 = .ok (.aload_n 0, 1) := by decide +kernel
theorem d_Mo_come_170 : decode prog_12_method_33_code 170 = .ok (.getfield 148, 3) := by decide +kernel
theorem d_Mo_come_173 : decode prog_12_method_33_code 173 = .ok (.aload_n 0, 1) := by decide +kernel
theorem d_Mo_come_174 : decode prog_12_method_33_code 174 = .ok (.getfield 41, 3) := by decide +kernel
theorem d_Mo_come_177 : decode prog_12_method_33_code 177 = .ok (.iload_n 3, 1) := by decide +kernel
theorem d_Mo_come_178 : decode prog_12_method_33_code 178 = .ok (.iaload, 1) := by decide +kernel
theorem d_Mo_come_179 : decode prog_12_method_33_code 179 = .ok (.if_icmp .lt 24, 3) := by decide +kernel
theorem d_Mo_come_182 : decode prog_12_method_33_code 182 = .ok (.aload_n 0, 1) := by decide +kernel
theorem d_Mo_come_183 : decode prog_12_method_33_code 183 = .ok (.getfield 148, 3) := by decide +kernel
theorem d_Mo_come_186 : decode prog_12_method_33_code 186 = .ok (.aload_n 0, 1) := by decide +kernel
theorem d_Mo_come_187 : decode prog_12_method_33_code 187 = .ok (.aload_n 0, 1) := by decide +kernel
theorem d_Mo_come_188 : decode prog_12_method_33_code 188 = .ok (.getfield 44, 3) := by decide +kernel
theorem d_Mo_come_191 : decode prog_12_method_33_code 191 = .ok (.iload_n 3, 1) := by decide +kernel
theorem d_Mo_come_192 : decode prog_12_method_33_code 192 = .ok (.iaload, 1) := by decide +kernel
theorem d_Mo_come_193 : decode prog_12_method_33_code 193 = .ok (.invokevirtual 116, 3) := by decide +kernel
theorem d_Mo_come_196 : decode prog_12_method_33_code 196 = .ok (.if_icmp .gt 7, 3) := by decide +kernel
theorem d_Mo_come_199 : decode prog_12_method_33_code 199 = .ok (.iconst 1, 1) := by decide +kernel
theorem d_Mo_come_200 : decode prog_12_method_33_code 200 = .ok (.goto 4, 3) := by decide +kernel
theorem d_Mo_come_203 : decode prog_12_method_33_code 203 = .ok (.iconst 0, 1) := by decide +kernel
theorem d_Mo_come_204 : decode prog_12_method_33_code 204 = .ok (.istore 4, 2) := by decide +kernel
theorem d_Mo_come_206 : decode prog_12_method_33_code 206 = .ok (.aload_n 0, 1) := by decide +kernel
theorem d_Mo_come_207 : decode prog_12_method_33_code 207 = .ok (.aload_n 0, 1) := by decide +kernel
theorem d_Mo_come_208 : decode prog_12_method_33_code 208 = .ok (.getfield 155, 3) := by decide +kernel
theorem d_Mo_come_211 : decode prog_12_method_33_code 211 = .ok (.ifCond .ne 23, 3) := by decide +kernel
theorem d_Mo_come_214 : decode prog_12_method_33_code 214 = .ok (.iload 4, 2) := by decide +kernel
theorem d_Mo_come_216 : decode prog_12_method_33_code 216 = .ok (.ifCond .eq 22, 3) := by decide +kernel
theorem d_Mo_come_219 : decode prog_12_method_33_code 219 = .ok (.aload_n 0, 1) := by decide +kernel
theorem d_Mo_come_220 : decode prog_12_method_33_code 220 = .ok (.getfield 53, 3) := by decide +kernel
theorem d_Mo_come_223 : decode prog_12_method_33_code 223 = .ok (.iload_n 3, 1) := by decide +kernel
theorem d_Mo_come_224 : decode prog_12_method_33_code 224 = .ok (.iaload, 1) := by decide +kernel
theorem d_Mo_come_225 : decode prog_12_method_33_code 225 = .ok (.aload_n 0, 1) := by decide +kernel
theorem d_Mo_come_226 : decode prog_12_method_33_code 226 = .ok (.getfield 50, 3) := by decide +kernel
theorem d_Mo_come_229 : decode prog_12_method_33_code 229 = .ok (.iload_n 3, 1) := by decide +kernel
theorem d_Mo_come_230 : decode prog_12_method_33_code 230 = .ok (.iaload, 1) := by decide +kernel
theorem d_Mo_come_231 : decode prog_12_method_33_code 231 = .ok (.if_icmp .ge 7, 3) := by decide +kernel
theorem d_Mo_come_234 : decode prog_12_method_33_code 234 = .ok (.iconst 1, 1) := by decide +kernel
theorem d_Mo_come_235 : decode prog_12_method_33_code 235 = .ok (.goto 4, 3) := by decide +kernel
theorem d_Mo_come_238 : decode prog_12_method_33_code 238 = .ok (.iconst 0, 1) := by decide +kernel
theorem d_Mo_come_239 : decode prog_12_method_33_code 239 = .ok (.putfield 155, 3) := by decide +kernel
theorem d_Mo_come_242 : decode prog_12_method_33_code 242 = .ok (.iinc 3 1, 3) := by decide +kernel
theorem d_Mo_come_245 : decode prog_12_method_33_code 245 = .ok (.goto (-91), 3) := by decide +kernel
theorem d_Mo_come_248 : decode prog_12_method_33_code 248 = .ok (.aload_n 0, 1) := by decide +kernel
theorem d_Mo_come_249 : decode prog_12_method_33_code 249 = .ok (.getfield 56, 3) := by decide +kernel
theorem d_Mo_come_252 : decode prog_12_method_33_code 252 = .ok (.aload_n 0, 1) := by decide +kernel
theorem d_Mo_come_253 : decode prog_12_method_33_code 253 = .ok (.getfield 159, 3) := by decide +kernel
theorem d_Mo_come_256 : decode prog_12_method_33_code 256 = .ok (.aload_n 0, 1) := by decide +kernel
theorem d_Mo_come_257 : decode prog_12_method_33_code 257 = .ok (.getfield 148, 3) := by decide +kernel
theorem d_Mo_come_260 : decode prog_12_method_33_code 260 = .ok (.iastore, 1) := by decide +kernel
theorem d_Mo_come_261 : decode prog_12_method_33_code 261 = .ok (.aload_n 0, 1) := by decide +kernel
theorem d_Mo_come_262 : decode prog_12_method_33_code 262 = .ok (.dup, 1) := by decide +kernel
theorem d_Mo_come_263 : decode prog_12_method_33_code 263 = .ok (.getfield 159, 3) := by decide +kernel
theorem d_Mo_come_266 : decode prog_12_method_33_code 266 = .ok (.iconst 1, 1) := by decide +kernel
theorem d_Mo_come_267 : decode prog_12_method_33_code 267 = .ok (.iadd, 1) := by decide +kernel
theorem d_Mo_come_268 : decode prog_12_method_33_code 268 = .ok (.putfield 159, 3) := by decide +kernel
theorem d_Mo_come_271 : decode prog_12_method_33_code 271 = .ok (.return_, 1) := by decide +kernel
theorem d_Mo_takes_0 : decode prog_12_method_30_code 0 = .ok (.aload_n 0, 1) := by decide +kernel
theorem d_Mo_takes_1 : decode prog_12_method_30_code 1 = .ok (.getfield 145, 3) := by decide +kernel
theorem d_Mo_takes_4 : decode prog_12_method_30_code 4 = .ok (.ifCond .lt 11, 3) := by decide +kernel
theorem d_Mo_takes_7 : decode prog_12_method_30_code 7 = .ok (.aload_n 0, 1) := by decide +kernel
theorem d_Mo_takes_8 : decode prog_12_method_30_code 8 = .ok (.getfield 145, 3) := by decide +kernel
theorem d_Mo_takes_11 : decode prog_12_method_30_code 11 = .ok (.iconst 5, 1) := by decide +kernel
theorem d_Mo_takes_12 : decode prog_12_method_30_code 12 = .ok (.if_icmp .le 7, 3) := by decide +kernel
theorem d_Mo_takes_15 : decode prog_12_method_30_code 15 = .ok (.iconst 1, 1) := by decide +kernel
theorem d_Mo_takes_16 : decode prog_12_method_30_code 16 = .ok (.goto 4, 3) := by decide +kernel
theorem d_Mo_takes_19 : decode prog_12_method_30_code 19 = .ok (.iconst 0, 1) := by decide +kernel
theorem d_Mo_takes_20 : decode prog_12_method_30_code 20 = .ok (.ireturn, 1) := by decide +kernel
theorem d_Mo_goOn_0 : decode prog_12_method_35_code 0 = .ok (.aload_n 0, 1) := by decide +kernel
theorem d_Mo_goOn_1 : decode prog_12_method_35_code 1 = .ok (.aload_n 0, 1) := by decide +kernel
theorem d_Mo_goOn_2 : decode prog_12_method_35_code 2 = .ok (.getfield 148, 3) := by decide +kernel
theorem d_Mo_goOn_5 : decode prog_12_method_35_code 5 = .ok (.invokevirtual 168, 3) := by decide +kernel
theorem d_Mo_goOn_8 : decode prog_12_method_35_code 8 = .ok (.istore_n 1, 1) := by decide +kernel
theorem d_Mo_goOn_9 : decode prog_12_method_35_code 9 = .ok (.iload_n 1, 1) := by decide +kernel
theorem d_Mo_goOn_10 : decode prog_12_method_35_code 10 = .ok (.ifCond .lt 54, 3) := by decide +kernel
theorem d_Mo_goOn_13 : decode prog_12_method_35_code 13 = .ok (.aload_n 0, 1) := by decide +kernel
theorem d_Mo_goOn_14 : decode prog_12_method_35_code 14 = .ok (.invokevirtual 151, 3) := by decide +kernel
theorem d_Mo_goOn_17 : decode prog_12_method_35_code 17 = .ok (.ifCond .eq 47, 3) := by decide +kernel
theorem d_Mo_goOn_20 : decode prog_12_method_35_code 20 = .ok (.aload_n 0, 1) := by decide +kernel
theorem d_Mo_goOn_21 : decode prog_12_method_35_code 21 = .ok (.getfield 53, 3) := by decide +kernel
theorem d_Mo_goOn_24 : decode prog_12_method_35_code 24 = .ok (.iload_n 1, 1) := by decide +kernel
theorem d_Mo_goOn_25 : decode prog_12_method_35_code 25 = .ok (.iaload, 1) := by decide +kernel
theorem d_Mo_goOn_26 : decode prog_12_method_35_code 26 = .ok (.aload_n 0, 1) := by decide +kernel
theorem d_Mo_goOn_27 : decode prog_12_method_35_code 27 = .ok (.getfield 50, 3) := by decide +kernel
theorem d_Mo_goOn_30 : decode prog_12_method_35_code 30 = .ok (.iload_n 1, 1) := by decide +kernel
theorem d_Mo_goOn_31 : decode prog_12_method_35_code 31 = .ok (.iaload, 1) := by decide +kernel
theorem d_Mo_goOn_32 : decode prog_12_method_35_code 32 = .ok (.if_icmp .ge 25, 3) := by decide +kernel
theorem d_Mo_goOn_35 : decode prog_12_method_35_code 35 = .ok (.aload_n 0, 1) := by decide +kernel
theorem d_Mo_goOn_36 : decode prog_12_method_35_code 36 = .ok (.getfield 53, 3) := by decide +kernel
theorem d_Mo_goOn_39 : decode prog_12_method_35_code 39 = .ok (.iload_n 1, 1) := by decide +kernel
theorem d_Mo_goOn_40 : decode prog_12_method_35_code 40 = .ok (.dup2, 1) := by decide +kernel
theorem d_Mo_goOn_41 : decode prog_12_method_35_code 41 = .ok (.iaload, 1) := by decide +kernel
theorem d_Mo_goOn_42 : decode prog_12_method_35_code 42 = .ok (.iconst 1, 1) := by decide +kernel
theorem d_Mo_goOn_43 : decode prog_12_method_35_code 43 = .ok (.iadd, 1) := by decide +kernel
theorem d_Mo_goOn_44 : decode prog_12_method_35_code 44 = .ok (.iastore, 1) := by decide +kernel
theorem d_Mo_goOn_45 : decode prog_12_method_35_code 45 = .ok (.aload_n 0, 1) := by decide +kernel
theorem d_Mo_goOn_46 : decode prog_12_method_35_code 46 = .ok (.aload_n 0, 1) := by decide +kernel
theorem d_Mo_goOn_47 : decode prog_12_method_35_code 47 = .ok (.getfield 41, 3) := by decide +kernel
theorem d_Mo_goOn_50 : decode prog_12_method_35_code 50 = .ok (.iload_n 1, 1) := by decide +kernel
theorem d_Mo_goOn_51 : decode prog_12_method_35_code 51 = .ok (.iaload, 1) := by decide +kernel
theorem d_Mo_goOn_52 : decode prog_12_method_35_code 52 = .ok (.invokevirtual 165, 3) := by decide +kernel
theorem d_Mo_goOn_55 : decode prog_12_method_35_code 55 = .ok (.iconst 1, 1) := by decide +kernel
theorem d_Mo_goOn_56 : decode prog_12_method_35_code 56 = .ok (.ireturn, 1) := by decide +kernel
theorem d_Mo_goOn_57 : decode prog_12_method_35_code 57 = .ok (.aload_n 0, 1) := by decide +kernel
theorem d_Mo_goOn_58 : decode prog_12_method_35_code 58 = .ok (.getfield 53, 3) := by decide +kernel
theorem d_Mo_goOn_61 : decode prog_12_method_35_code 61 = .ok (.iload_n 1, 1) := by decide +kernel
theorem d_Mo_goOn_62 : decode prog_12_method_35_code 62 = .ok (.iconst 1, 1) := by decide +kernel
theorem d_Mo_goOn_63 : decode prog_12_method_35_code 63 = .ok (.iastore, 1) := by decide +kernel
theorem d_Mo_goOn_64 : decode prog_12_method_35_code 64 = .ok (.aload_n 0, 1) := by decide +kernel
theorem d_Mo_goOn_65 : decode prog_12_method_35_code 65 = .ok (.invokevirtual 171, 3) := by decide +kernel
theorem d_Mo_goOn_68 : decode prog_12_method_35_code 68 = .ok (.iconst 1, 1) := by decide +kernel
theorem d_Mo_goOn_69 : decode prog_12_method_35_code 69 = .ok (.if_icmp .ne 24, 3) := by decide +kernel
theorem d_Mo_goOn_72 : decode prog_12_method_35_code 72 = .ok (.aload_n 0, 1) := by decide +kernel
theorem d_Mo_goOn_73 : decode prog_12_method_35_code 73 = .ok (.aload_n 0, 1) := by decide +kernel
theorem d_Mo_goOn_74 : decode prog_12_method_35_code 74 = .ok (.getfield 148, 3) := by decide +kernel
theorem d_Mo_goOn_77 : decode prog_12_method_35_code 77 = .ok (.iconst 5, 1) := by decide +kernel
theorem d_Mo_goOn_78 : decode prog_12_method_35_code 78 = .ok (.invokevirtual 90, 3) := by decide +kernel
theorem d_Mo_goOn_81 : decode prog_12_method_35_code 81 = .ok (.ifCond .eq 12, 3) := by decide +kernel
theorem d_Mo_goOn_84 : decode prog_12_method_35_code 84 = .ok (.aload_n 0, 1) := by decide +kernel
theorem d_Mo_goOn_85 : decode prog_12_method_35_code 85 = .ok (.getfield 155, 3) := by decide +kernel
theorem d_Mo_goOn_88 : decode prog_12_method_35_code 88 = .ok (.ifCond .ne 5, 3) := by decide +kernel
theorem d_Mo_goOn_91 : decode prog_12_method_35_code 91 = .ok (.iconst 0, 1) := by decide +kernel
theorem d_Mo_goOn_92 : decode prog_12_method_35_code 92 = .ok (.ireturn, 1) := by decide +kernel
theorem d_Mo_goOn_93 : decode prog_12_method_35_code 93 = .ok (.aload_n 0, 1) := by decide +kernel
theorem d_Mo_goOn_94 : decode prog_12_method_35_code 94 = .ok (.invokevirtual 171, 3) := by decide +kernel
theorem d_Mo_goOn_97 : decode prog_12_method_35_code 97 = .ok (.iconst 2, 1) := by decide +kernel
theorem d_Mo_goOn_98 : decode prog_12_method_35_code 98 = .ok (.if_icmp .ne 46, 3) := by decide +kernel
theorem d_Mo_goOn_101 : decode prog_12_method_35_code 101 = .ok (.aload_n 0, 1) := by decide +kernel
theorem d_Mo_goOn_102 : decode prog_12_method_35_code 102 = .ok (.getfield 174, 3) := by decide +kernel
theorem d_Mo_goOn_105 : decode prog_12_method_35_code 105 = .ok (.ifCond .ne 39, 3) := by decide +kernel
theorem d_Mo_goOn_108 : decode prog_12_method_35_code 108 = .ok (.aload_n 0, 1) := by decide +kernel
theorem d_Mo_goOn_109 : decode prog_12_method_35_code 109 = .ok (.aload_n 0, 1) := by decide +kernel
theorem d_Mo_goOn_110 : decode prog_12_method_35_code 110 = .ok (.getfield 148, 3) := by decide +kernel
theorem d_Mo_goOn_113 : decode prog_12_method_35_code 113 = .ok (.bipush 6, 2) := by decide +kernel
theorem d_Mo_goOn_115 : decode prog_12_method_35_code 115 = .ok (.invokevirtual 90, 3) := by decide +kernel
theorem d_Mo_goOn_118 : decode prog_12_method_35_code 118 = .ok (.ifCond .eq 26, 3) := by decide +kernel
theorem d_Mo_goOn_121 : decode prog_12_method_35_code 121 = .ok (.aload_n 0, 1) := by decide +kernel
theorem d_Mo_goOn_122 : decode prog_12_method_35_code 122 = .ok (.getfield 155, 3) := by decide +kernel
theorem d_Mo_goOn_125 : decode prog_12_method_35_code 125 = .ok (.ifCond .ne 19, 3) := by decide +kernel
theorem d_Mo_goOn_128 : decode prog_12_method_35_code 128 = .ok (.aload_n 0, 1) := by decide +kernel
theorem d_Mo_goOn_129 : decode prog_12_method_35_code 129 = .ok (.iconst 1, 1) := by decide +kernel
theorem d_Mo_goOn_130 : decode prog_12_method_35_code 130 = .ok (.putfield 174, 3) := by decide +kernel
theorem d_Mo_goOn_133 : decode prog_12_method_35_code 133 = .ok (.aload_n 0, 1) := by decide +kernel
theorem d_Mo_goOn_134 : decode prog_12_method_35_code 134 = .ok (.aload_n 0, 1) := by decide +kernel
theorem d_Mo_goOn_135 : decode prog_12_method_35_code 135 = .ok (.iconst 4, 1) := by decide +kernel
theorem d_Mo_goOn_136 : decode prog_12_method_35_code 136 = .ok (.invokevirtual 119, 3) := by decide +kernel
theorem d_Mo_goOn_139 : decode prog_12_method_35_code 139 = .ok (.invokevirtual 165, 3) := by decide +kernel
theorem d_Mo_goOn_142 : decode prog_12_method_35_code 142 = .ok (.iconst 1, 1) := by decide +kernel
theorem d_Mo_goOn_143 : decode prog_12_method_35_code 143 = .ok (.ireturn, 1) := by decide +kernel
theorem d_Mo_goOn_144 : decode prog_12_method_35_code 144 = .ok (.aload_n 0, 1) := by decide +kernel
theorem d_Mo_goOn_145 : decode prog_12_method_35_code 145 = .ok (.getfield 145, 3) := by decide +kernel
theorem d_Mo_goOn_148 : decode prog_12_method_35_code 148 = .ok (.ifCond .ge 41, 3) := by decide +kernel
theorem d_Mo_goOn_151 : decode prog_12_method_35_code 151 = .ok (.aload_n 0, 1) := by decide +kernel
theorem d_Mo_goOn_152 : decode prog_12_method_35_code 152 = .ok (.aload_n 0, 1) := by decide +kernel
theorem d_Mo_goOn_153 : decode prog_12_method_35_code 153 = .ok (.getfield 148, 3) := by decide +kernel
theorem d_Mo_goOn_156 : decode prog_12_method_35_code 156 = .ok (.bipush 7, 2) := by decide +kernel
theorem d_Mo_goOn_158 : decode prog_12_method_35_code 158 = .ok (.invokevirtual 90, 3) := by decide +kernel
theorem d_Mo_goOn_161 : decode prog_12_method_35_code 161 = .ok (.ifCond .eq 28, 3) := by decide +kernel
theorem d_Mo_goOn_164 : decode prog_12_method_35_code 164 = .ok (.aload_n 0, 1) := by decide +kernel
theorem d_Mo_goOn_165 : decode prog_12_method_35_code 165 = .ok (.getfield 155, 3) := by decide +kernel
theorem d_Mo_goOn_168 : decode prog_12_method_35_code 168 = .ok (.ifCond .ne 21, 3) := by decide +kernel
theorem d_Mo_goOn_171 : decode prog_12_method_35_code 171 = .ok (.aload_n 0, 1) := by decide +kernel
theorem d_Mo_goOn_172 : decode prog_12_method_35_code 172 = .ok (.aload_n 0, 1) := by decide +kernel
theorem d_Mo_goOn_173 : decode prog_12_method_35_code 173 = .ok (.aload_n 0, 1) := by decide +kernel
theorem d_Mo_goOn_174 : decode prog_12_method_35_code 174 = .ok (.getfield 148, 3) := by decide +kernel
theorem d_Mo_goOn_177 : decode prog_12_method_35_code 177 = .ok (.bipush 7, 2) := by decide +kernel
theorem d_Mo_goOn_179 : decode prog_12_method_35_code 179 = .ok (.invokevirtual 70, 3) := by decide +kernel
theorem d_Mo_goOn_182 : decode prog_12_method_35_code 182 = .ok (.iconst 1, 1) := by decide +kernel
theorem d_Mo_goOn_183 : decode prog_12_method_35_code 183 = .ok (.isub, 1) := by decide +kernel
theorem d_Mo_goOn_184 : decode prog_12_method_35_code 184 = .ok (.invokevirtual 177, 3) := by decide +kernel
theorem d_Mo_goOn_187 : decode prog_12_method_35_code 187 = .ok (.iconst 1, 1) := by decide +kernel
theorem d_Mo_goOn_188 : decode prog_12_method_35_code 188 = .ok (.ireturn, 1) := by decide +kernel
theorem d_Mo_goOn_189 : decode prog_12_method_35_code 189 = .ok (.aload_n 0, 1) := by decide +kernel
theorem d_Mo_goOn_190 : decode prog_12_method_35_code 190 = .ok (.getfield 148, 3) := by decide +kernel
theorem d_Mo_goOn_193 : decode prog_12_method_35_code 193 = .ok (.iconst 1, 1) := by decide +kernel
theorem d_Mo_goOn_194 : decode prog_12_method_35_code 194 = .ok (.iadd, 1) := by decide +kernel
theorem d_Mo_goOn_195 : decode prog_12_method_35_code 195 = .ok (.aload_n 0, 1) := by decide +kernel
theorem d_Mo_goOn_196 : decode prog_12_method_35_code 196 = .ok (.getfield 59, 3) := by decide +kernel
theorem d_Mo_goOn_199 : decode prog_12_method_35_code 199 = .ok (.if_icmp .ne 5, 3) := by decide +kernel
theorem d_Mo_goOn_202 : decode prog_12_method_35_code 202 = .ok (.iconst 0, 1) := by decide +kernel
theorem d_Mo_goOn_203 : decode prog_12_method_35_code 203 = .ok (.ireturn, 1) := by decide +kernel
theorem d_Mo_goOn_204 : decode prog_12_method_35_code 204 = .ok (.aload_n 0, 1) := by decide +kernel
theorem d_Mo_goOn_205 : decode prog_12_method_35_code 205 = .ok (.aload_n 0, 1) := by decide +kernel
theorem d_Mo_goOn_206 : decode prog_12_method_35_code 206 = .ok (.getfield 148, 3) := by decide +kernel
theorem d_Mo_goOn_209 : decode prog_12_method_35_code 209 = .ok (.iconst 1, 1) := by decide +kernel
theorem d_Mo_goOn_210 : decode prog_12_method_35_code 210 = .ok (.iadd, 1) := by decide +kernel
theorem d_Mo_goOn_211 : decode prog_12_method_35_code 211 = .ok (.invokevirtual 165, 3) := by decide +kernel
theorem d_Mo_goOn_214 : decode prog_12_method_35_code 214 = .ok (.iconst 1, 1) := by decide +kernel
theorem d_Mo_goOn_215 : decode prog_12_method_35_code 215 = .ok (.ireturn, 1) := by decide +kernel
theorem d_Mo_withEnd_0 : decode prog_12_method_19_code 0 = .ok (.iconst 0, 1) := by decide +kernel
theorem d_Mo_withEnd_1 : decode prog_12_method_19_code 1 = .ok (.istore_n 2, 1) := by decide +kernel
theorem d_Mo_withEnd_2 : decode prog_12_method_19_code 2 = .ok (.iload_n 2, 1) := by decide +kernel
theorem d_Mo_withEnd_3 : decode prog_12_method_19_code 3 = .ok (.aload_n 0, 1) := by decide +kernel
theorem d_Mo_withEnd_4 : decode prog_12_method_19_code 4 = .ok (.getfield 97, 3) := by decide +kernel
theorem d_Mo_withEnd_7 : decode prog_12_method_19_code 7 = .ok (.if_icmp .ge 24, 3) := by decide +kernel
theorem d_Mo_withEnd_10 : decode prog_12_method_19_code 10 = .ok (.aload_n 0, 1) := by decide +kernel
theorem d_Mo_withEnd_11 : decode prog_12_method_19_code 11 = .ok (.getfield 44, 3) := by decide +kernel
theorem d_Mo_withEnd_14 : decode prog_12_method_19_code 14 = .ok (.iload_n 2, 1) := by decide +kernel
theorem d_Mo_withEnd_15 : decode prog_12_method_19_code 15 = .ok (.iaload, 1) := by decide +kernel
theorem d_Mo_withEnd_16 : decode prog_12_method_19_code 16 = .ok (.iload_n 1, 1) := by decide +kernel
theorem d_Mo_withEnd_17 : decode prog_12_method_19_code 17 = .ok (.invokestatic 94, 3) := by decide +kernel
theorem d_Mo_withEnd_20 : decode prog_12_method_19_code 20 = .ok (.ifCond .eq 5, 3) := by decide +kernel
theorem d_Mo_withEnd_23 : decode prog_12_method_19_code 23 = .ok (.iload_n 2, 1) := by decide +kernel
theorem d_Mo_withEnd_24 : decode prog_12_method_19_code 24 = .ok (.ireturn, 1) := by decide +kernel
theorem d_Mo_withEnd_25 : decode prog_12_method_19_code 25 = .ok (.iinc 2 1, 3) := by decide +kernel
theorem d_Mo_withEnd_28 : decode prog_12_method_19_code 28 = .ok (.goto (-26), 3) := by decide +kernel
theorem d_Mo_withEnd_31 : decode prog_12_method_19_code 31 = .ok (.iconst (-1), 1) := by decide +kernel
theorem d_Mo_withEnd_32 : decode prog_12_method_19_code 32 = .ok (.ireturn, 1) := by decide +kernel
theorem d_Mo_how_0 : decode prog_12_method_31_code 0 = .ok (.aload_n 0, 1) := by decide +kernel
theorem d_Mo_how_1 : decode prog_12_method_31_code 1 = .ok (.getfield 145, 3) := by decide +kernel
theorem d_Mo_how_4 : decode prog_12_method_31_code 4 = .ok (.ifCond .ge 7, 3) := by decide +kernel
theorem d_Mo_how_7 : decode prog_12_method_31_code 7 = .ok (.iconst 0, 1) := by decide +kernel
theorem d_Mo_how_8 : decode prog_12_method_31_code 8 = .ok (.goto 11, 3) := by decide +kernel
theorem d_Mo_how_11 : decode prog_12_method_31_code 11 = .ok (.aload_n 0, 1) := by decide +kernel
theorem d_Mo_how_12 : decode prog_12_method_31_code 12 = .ok (.getfield 145, 3) := by decide +kernel
theorem d_Mo_how_15 : decode prog_12_method_31_code 15 = .ok (.iconst 2, 1) := by decide +kernel
theorem d_Mo_how_16 : decode prog_12_method_31_code 16 = .ok (.idiv, 1) := by decide +kernel
theorem d_Mo_how_17 : decode prog_12_method_31_code 17 = .ok (.iconst 3, 1) := by decide +kernel
theorem d_Mo_how_18 : decode prog_12_method_31_code 18 = .ok (.irem, 1) := by decide +kernel
theorem d_Mo_how_19 : decode prog_12_method_31_code 19 = .ok (.ireturn, 1) := by decide +kernel
theorem d_Mo_resetJumped_0 : decode prog_12_method_34_code 0 = .ok (.aload_n 0, 1) := by decide +kernel
theorem d_Mo_resetJumped_1 : decode prog_12_method_34_code 1 = .ok (.iload_n 1, 1) := by decide +kernel
theorem d_Mo_resetJumped_2 : decode prog_12_method_34_code 2 = .ok (.putfield 145, 3) := by decide +kernel
theorem d_Mo_resetJumped_5 : decode prog_12_method_34_code 5 = .ok (.aload_n 0, 1) := by decide +kernel
theorem d_Mo_resetJumped_6 : decode prog_12_method_34_code 6 = .ok (.invokevirtual 162, 3) := by decide +kernel
theorem d_Mo_resetJumped_9 : decode prog_12_method_34_code 9 = .ok (.aload_n 0, 1) := by decide +kernel
theorem d_Mo_resetJumped_10 : decode prog_12_method_34_code 10 = .ok (.iload_n 1, 1) := by decide +kernel
theorem d_Mo_resetJumped_11 : decode prog_12_method_34_code 11 = .ok (.iconst 2, 1) := by decide +kernel
theorem d_Mo_resetJumped_12 : decode prog_12_method_34_code 12 = .ok (.irem, 1) := by decide +kernel
theorem d_Mo_resetJumped_13 : decode prog_12_method_34_code 13 = .ok (.ifCond .ne 7, 3) := by decide +kernel
theorem d_Mo_resetJumped_16 : decode prog_12_method_34_code 16 = .ok (.iconst 0, 1) := by decide +kernel
theorem d_Mo_resetJumped_17 : decode prog_12_method_34_code 17 = .ok (.goto 8, 3) := by decide +kernel
theorem d_Mo_resetJumped_20 : decode prog_12_method_34_code 20 = .ok (.aload_n 0, 1) := by decide +kernel
theorem d_Mo_resetJumped_21 : decode prog_12_method_34_code 21 = .ok (.iconst 3, 1) := by decide +kernel
theorem d_Mo_resetJumped_22 : decode prog_12_method_34_code 22 = .ok (.invokevirtual 119, 3) := by decide +kernel
theorem d_Mo_resetJumped_25 : decode prog_12_method_34_code 25 = .ok (.invokevirtual 165, 3) := by decide +kernel
theorem d_Mo_resetJumped_28 : decode prog_12_method_34_code 28 = .ok (.return_, 1) := by decide +kernel
theorem d_Mo_played_0 : decode prog_12_method_39_code 0 = .ok (.aload_n 0, 1) := by decide +kernel
theorem d_Mo_played_1 : decode prog_12_method_39_code 1 = .ok (.aload_n 0, 1) := by decide +kernel
theorem d_Mo_played_2 : decode prog_12_method_39_code 2 = .ok (.iload_n 1, 1) := by decide +kernel
theorem d_Mo_played_3 : decode prog_12_method_39_code 3 = .ok (.iconst 0, 1) := by decide +kernel
theorem d_Mo_played_4 : decode prog_12_method_39_code 4 = .ok (.invokevirtual 186, 3) := by decide +kernel
theorem d_Mo_played_7 : decode prog_12_method_39_code 7 = .ok (.putfield 63, 3) := by decide +kernel
theorem d_Mo_played_10 : decode prog_12_method_39_code 10 = .ok (.aload_n 0, 1) := by decide +kernel
theorem d_Mo_played_11 : decode prog_12_method_39_code 11 = .ok (.getfield 63, 3) := by decide +kernel
theorem d_Mo_played_14 : decode prog_12_method_39_code 14 = .ok (.ifCond .le 7, 3) := by decide +kernel
theorem d_Mo_played_17 : decode prog_12_method_39_code 17 = .ok (.iconst 0, 1) := by decide +kernel
theorem d_Mo_played_18 : decode prog_12_method_39_code 18 = .ok (.goto 9, 3) := by decide +kernel
theorem d_Mo_played_21 : decode prog_12_method_39_code 21 = .ok (.aload_n 0, 1) := by decide +kernel
theorem d_Mo_played_22 : decode prog_12_method_39_code 22 = .ok (.getfield 56, 3) := by decide +kernel
theorem d_Mo_played_25 : decode prog_12_method_39_code 25 = .ok (.iload_n 1, 1) := by decide +kernel
theorem d_Mo_played_26 : decode prog_12_method_39_code 26 = .ok (.iaload, 1) := by decide +kernel
theorem d_Mo_played_27 : decode prog_12_method_39_code 27 = .ok (.ireturn, 1) := by decide +kernel
theorem d_Mo_wrongBar_0 : decode prog_12_method_38_code 0 = .ok (.aload_n 0, 1) := by decide +kernel
theorem d_Mo_wrongBar_1 : decode prog_12_method_38_code 1 = .ok (.invokevirtual 183, 3) := by decide +kernel
theorem d_Mo_wrongBar_4 : decode prog_12_method_38_code 4 = .ok (.ifCond .ne 7, 3) := by decide +kernel
theorem d_Mo_wrongBar_7 : decode prog_12_method_38_code 7 = .ok (.iconst 1, 1) := by decide +kernel
theorem d_Mo_wrongBar_8 : decode prog_12_method_38_code 8 = .ok (.goto 22, 3) := by decide +kernel
theorem d_Mo_wrongBar_11 : decode prog_12_method_38_code 11 = .ok (.iload_n 1, 1) := by decide +kernel
theorem d_Mo_wrongBar_12 : decode prog_12_method_38_code 12 = .ok (.ifCond .lt 13, 3) := by decide +kernel
theorem d_Mo_wrongBar_15 : decode prog_12_method_38_code 15 = .ok (.iload_n 1, 1) := by decide +kernel
theorem d_Mo_wrongBar_16 : decode prog_12_method_38_code 16 = .ok (.iload_n 2, 1) := by decide +kernel
theorem d_Mo_wrongBar_17 : decode prog_12_method_38_code 17 = .ok (.isub, 1) := by decide +kernel
theorem d_Mo_wrongBar_18 : decode prog_12_method_38_code 18 = .ok (.aload_n 0, 1) := by decide +kernel
theorem d_Mo_wrongBar_19 : decode prog_12_method_38_code 19 = .ok (.getfield 159, 3) := by decide +kernel
theorem d_Mo_wrongBar_22 : decode prog_12_method_38_code 22 = .ok (.if_icmp .lt 7, 3) := by decide +kernel
theorem d_Mo_wrongBar_25 : decode prog_12_method_38_code 25 = .ok (.iconst 2, 1) := by decide +kernel
theorem d_Mo_wrongBar_26 : decode prog_12_method_38_code 26 = .ok (.goto 4, 3) := by decide +kernel
theorem d_Mo_wrongBar_29 : decode prog_12_method_38_code 29 = .ok (.iconst 0, 1) := by decide +kernel
theorem d_Mo_wrongBar_30 : decode prog_12_method_38_code 30 = .ok (.ireturn, 1) := by decide +kernel
theorem d_Mo_time_0 : decode prog_12_method_40_code 0 = .ok (.aload_n 0, 1) := by decide +kernel
theorem d_Mo_time_1 : decode prog_12_method_40_code 1 = .ok (.aload_n 0, 1) := by decide +kernel
theorem d_Mo_time_2 : decode prog_12_method_40_code 2 = .ok (.iload_n 1, 1) := by decide +kernel
theorem d_Mo_time_3 : decode prog_12_method_40_code 3 = .ok (.iconst 0, 1) := by decide +kernel
theorem d_Mo_time_4 : decode prog_12_method_40_code 4 = .ok (.invokevirtual 186, 3) := by decide +kernel
theorem d_Mo_time_7 : decode prog_12_method_40_code 7 = .ok (.putfield 63, 3) := by decide +kernel
theorem d_Mo_time_10 : decode prog_12_method_40_code 10 = .ok (.iconst 0, 1) := by decide +kernel
theorem d_Mo_time_11 : decode prog_12_method_40_code 11 = .ok (.istore_n 2, 1) := by decide +kernel
theorem d_Mo_time_12 : decode prog_12_method_40_code 12 = .ok (.iconst 0, 1) := by decide +kernel
theorem d_Mo_time_13 : decode prog_12_method_40_code 13 = .ok (.istore_n 3, 1) := by decide +kernel
theorem d_Mo_time_14 : decode prog_12_method_40_code 14 = .ok (.iload_n 3, 1) := by decide +kernel
theorem d_Mo_time_15 : decode prog_12_method_40_code 15 = .ok (.iload_n 1, 1) := by decide +kernel
theorem d_Mo_time_16 : decode prog_12_method_40_code 16 = .ok (.if_icmp .gt 39, 3) := by decide +kernel
theorem d_Mo_time_19 : decode prog_12_method_40_code 19 = .ok (.aload_n 0, 1) := by decide +kernel
theorem d_Mo_time_20 : decode prog_12_method_40_code 20 = .ok (.getfield 63, 3) := by decide +kernel
theorem d_Mo_time_23 : decode prog_12_method_40_code 23 = .ok (.ifCond .ne 32, 3) := by decide +kernel
theorem d_Mo_time_26 : decode prog_12_method_40_code 26 = .ok (.aload_n 0, 1) := by decide +kernel
theorem d_Mo_time_27 : decode prog_12_method_40_code 27 = .ok (.getfield 56, 3) := by decide +kernel
theorem d_Mo_time_30 : decode prog_12_method_40_code 30 = .ok (.iload_n 3, 1) := by decide +kernel
theorem d_Mo_time_31 : decode prog_12_method_40_code 31 = .ok (.iaload, 1) := by decide +kernel
theorem d_Mo_time_32 : decode prog_12_method_40_code 32 = .ok (.aload_n 0, 1) := by decide +kernel
theorem d_Mo_time_33 : decode prog_12_method_40_code 33 = .ok (.getfield 56, 3) := by decide +kernel
theorem d_Mo_time_36 : decode prog_12_method_40_code 36 = .ok (.iload_n 1, 1) := by decide +kernel
theorem d_Mo_time_37 : decode prog_12_method_40_code 37 = .ok (.iaload, 1) := by decide +kernel
theorem d_Mo_time_38 : decode prog_12_method_40_code 38 = .ok (.if_icmp .ne 9, 3) := by decide +kernel
theorem d_Mo_time_41 : decode prog_12_method_40_code 41 = .ok (.iload_n 2, 1) := by decide +kernel
theorem d_Mo_time_42 : decode prog_12_method_40_code 42 = .ok (.iconst 1, 1) := by decide +kernel
theorem d_Mo_time_43 : decode prog_12_method_40_code 43 = .ok (.iadd, 1) := by decide +kernel
theorem d_Mo_time_44 : decode prog_12_method_40_code 44 = .ok (.goto 4, 3) := by decide +kernel
theorem d_Mo_time_47 : decode prog_12_method_40_code 47 = .ok (.iload_n 2, 1) := by decide +kernel
theorem d_Mo_time_48 : decode prog_12_method_40_code 48 = .ok (.istore_n 2, 1) := by decide +kernel
theorem d_Mo_time_49 : decode prog_12_method_40_code 49 = .ok (.iinc 3 1, 3) := by decide +kernel
theorem d_Mo_time_52 : decode prog_12_method_40_code 52 = .ok (.goto (-38), 3) := by decide +kernel
theorem d_Mo_time_55 : decode prog_12_method_40_code 55 = .ok (.iload_n 2, 1) := by decide +kernel
theorem d_Mo_time_56 : decode prog_12_method_40_code 56 = .ok (.ireturn, 1) := by decide +kernel
theorem d_Mo_find_0 : decode prog_12_method_41_code 0 = .ok (.aload_n 0, 1) := by decide +kernel
theorem d_Mo_find_1 : decode prog_12_method_41_code 1 = .ok (.aload_n 0, 1) := by decide +kernel
theorem d_Mo_find_2 : decode prog_12_method_41_code 2 = .ok (.invokevirtual 183, 3) := by decide +kernel
theorem d_Mo_find_5 : decode prog_12_method_41_code 5 = .ok (.ifCond .eq 7, 3) := by decide +kernel
theorem d_Mo_find_8 : decode prog_12_method_41_code 8 = .ok (.iconst 0, 1) := by decide +kernel
theorem d_Mo_find_9 : decode prog_12_method_41_code 9 = .ok (.goto 4, 3) := by decide +kernel
theorem d_Mo_find_12 : decode prog_12_method_41_code 12 = .ok (.iconst 1, 1) := by decide +kernel
theorem d_Mo_find_13 : decode prog_12_method_41_code 13 = .ok (.putfield 63, 3) := by decide +kernel
theorem d_Mo_find_16 : decode prog_12_method_41_code 16 = .ok (.iconst 0, 1) := by decide +kernel
theorem d_Mo_find_17 : decode prog_12_method_41_code 17 = .ok (.istore_n 3, 1) := by decide +kernel
theorem d_Mo_find_18 : decode prog_12_method_41_code 18 = .ok (.iconst 0, 1) := by decide +kernel
theorem d_Mo_find_19 : decode prog_12_method_41_code 19 = .ok (.istore 4, 2) := by decide +kernel
theorem d_Mo_find_21 : decode prog_12_method_41_code 21 = .ok (.iload 4, 2) := by decide +kernel
theorem d_Mo_find_23 : decode prog_12_method_41_code 23 = .ok (.aload_n 0, 1) := by decide +kernel
theorem d_Mo_find_24 : decode prog_12_method_41_code 24 = .ok (.getfield 159, 3) := by decide +kernel
theorem d_Mo_find_27 : decode prog_12_method_41_code 27 = .ok (.if_icmp .ge 38, 3) := by decide +kernel
theorem d_Mo_find_30 : decode prog_12_method_41_code 30 = .ok (.aload_n 0, 1) := by decide +kernel
theorem d_Mo_find_31 : decode prog_12_method_41_code 31 = .ok (.getfield 63, 3) := by decide +kernel
theorem d_Mo_find_34 : decode prog_12_method_41_code 34 = .ok (.ifCond .ne 31, 3) := by decide +kernel
theorem d_Mo_find_37 : decode prog_12_method_41_code 37 = .ok (.aload_n 0, 1) := by decide +kernel
theorem d_Mo_find_38 : decode prog_12_method_41_code 38 = .ok (.getfield 56, 3) := by decide +kernel
theorem d_Mo_find_41 : decode prog_12_method_41_code 41 = .ok (.iload 4, 2) := by decide +kernel
theorem d_Mo_find_43 : decode prog_12_method_41_code 43 = .ok (.iaload, 1) := by decide +kernel
theorem d_Mo_find_44 : decode prog_12_method_41_code 44 = .ok (.iload_n 1, 1) := by decide +kernel
theorem d_Mo_find_45 : decode prog_12_method_41_code 45 = .ok (.if_icmp .ne 14, 3) := by decide +kernel
theorem d_Mo_find_48 : decode prog_12_method_41_code 48 = .ok (.iinc 3 1, 3) := by decide +kernel
theorem d_Mo_find_51 : decode prog_12_method_41_code 51 = .ok (.iload_n 3, 1) := by decide +kernel
theorem d_Mo_find_52 : decode prog_12_method_41_code 52 = .ok (.iload_n 2, 1) := by decide +kernel
theorem d_Mo_find_53 : decode prog_12_method_41_code 53 = .ok (.if_icmp .ne 6, 3) := by decide +kernel
theorem d_Mo_find_56 : decode prog_12_method_41_code 56 = .ok (.iload 4, 2) := by decide +kernel
theorem d_Mo_find_58 : decode prog_12_method_41_code 58 = .ok (.ireturn, 1) := by decide +kernel
theorem d_Mo_find_59 : decode prog_12_method_41_code 59 = .ok (.iinc 4 1, 3) := by decide +kernel
theorem d_Mo_find_62 : decode prog_12_method_41_code 62 = .ok (.goto (-41), 3) := by decide +kernel
theorem d_Mo_find_65 : decode prog_12_method_41_code 65 = .ok (.aload_n 0, 1) := by decide +kernel
theorem d_Mo_find_66 : decode prog_12_method_41_code 66 = .ok (.getfield 63, 3) := by decide +kernel
theorem d_Mo_find_69 : decode prog_12_method_41_code 69 = .ok (.ifCond .le 7, 3) := by decide +kernel
theorem d_Mo_find_72 : decode prog_12_method_41_code 72 = .ok (.iconst 0, 1) := by decide +kernel
theorem d_Mo_find_73 : decode prog_12_method_41_code 73 = .ok (.goto 4, 3) := by decide +kernel
theorem d_Mo_find_76 : decode prog_12_method_41_code 76 = .ok (.iconst (-1), 1) := by decide +kernel
theorem d_Mo_find_77 : decode prog_12_method_41_code 77 = .ok (.ireturn, 1) := by decide +kernel
theorem d_Mo_tick_0 : decode prog_12_method_43_code 0 = .ok (.aload_n 0, 1) := by decide +kernel
theorem d_Mo_tick_1 : decode prog_12_method_43_code 1 = .ok (.aload_n 0, 1) := by decide +kernel
theorem d_Mo_tick_2 : decode prog_12_method_43_code 2 = .ok (.iload_n 1, 1) := by decide +kernel
theorem d_Mo_tick_3 : decode prog_12_method_43_code 3 = .ok (.iconst 1, 1) := by decide +kernel
theorem d_Mo_tick_4 : decode prog_12_method_43_code 4 = .ok (.invokevirtual 186, 3) := by decide +kernel
theorem d_Mo_tick_7 : decode prog_12_method_43_code 7 = .ok (.putfield 63, 3) := by decide +kernel
theorem d_Mo_tick_10 : decode prog_12_method_43_code 10 = .ok (.aload_n 0, 1) := by decide +kernel
theorem d_Mo_tick_11 : decode prog_12_method_43_code 11 = .ok (.getfield 63, 3) := by decide +kernel
theorem d_Mo_tick_14 : decode prog_12_method_43_code 14 = .ok (.ifCond .le 7, 3) := by decide +kernel
theorem d_Mo_tick_17 : decode prog_12_method_43_code 17 = .ok (.lconst 0, 1) := by decide +kernel
theorem d_Mo_tick_18 : decode prog_12_method_43_code 18 = .ok (.goto 8, 3) := by decide +kernel
theorem d_Mo_tick_21 : decode prog_12_method_43_code 21 = .ok (.aload_n 0, 1) := by decide +kernel
theorem d_Mo_tick_22 : decode prog_12_method_43_code 22 = .ok (.iload_n 1, 1) := by decide +kernel
theorem d_Mo_tick_23 : decode prog_12_method_43_code 23 = .ok (.invokevirtual 189, 3) := by decide +kernel
theorem d_Mo_tick_26 : decode prog_12_method_43_code 26 = .ok (.lreturn, 1) := by decide +kernel
theorem d_Mo_ticksBefore_0 : decode prog_12_method_42_code 0 = .ok (.lconst 0, 1) := by decide +kernel
theorem d_Mo_ticksBefore_1 : decode prog_12_method_42_code 1 = .ok (.lstore_n 2, 1) := by decide +kernel
theorem d_Mo_ticksBefore_2 : decode prog_12_method_42_code 2 = .ok (.iconst 0, 1) := by decide +kernel
theorem d_Mo_ticksBefore_3 : decode prog_12_method_42_code 3 = .ok (.istore 4, 2) := by decide +kernel
theorem d_Mo_ticksBefore_5 : decode prog_12_method_42_code 5 = .ok (.iload 4, 2) := by decide +kernel
theorem d_Mo_ticksBefore_7 : decode prog_12_method_42_code 7 = .ok (.iload_n 1, 1) := by decide +kernel
theorem d_Mo_ticksBefore_8 : decode prog_12_method_42_code 8 = .ok (.if_icmp .ge 39, 3) := by decide +kernel
theorem d_Mo_ticksBefore_11 : decode prog_12_method_42_code 11 = .ok (.lload_n 2, 1) := by decide +kernel
theorem d_Mo_ticksBefore_12 : decode prog_12_method_42_code 12 = .ok (.aload_n 0, 1) := by decide +kernel
theorem d_Mo_ticksBefore_13 : decode prog_12_method_42_code 13 = .ok (.getfield 13, 3) := by decide +kernel
theorem d_Mo_ticksBefore_16 : decode prog_12_method_42_code 16 = .ok (.aload_n 0, 1) := by decide +kernel
theorem d_Mo_ticksBefore_17 : decode prog_12_method_42_code 17 = .ok (.getfield 56, 3) := by decide +kernel
theorem d_Mo_ticksBefore_20 : decode prog_12_method_42_code 20 = .ok (.iload 4, 2) := by decide +kernel
theorem d_Mo_ticksBefore_22 : decode prog_12_method_42_code 22 = .ok (.iaload, 1) := by decide +kernel
theorem d_Mo_ticksBefore_23 : decode prog_12_method_42_code 23 = .ok (.iaload, 1) := by decide +kernel
theorem d_Mo_ticksBefore_24 : decode prog_12_method_42_code 24 = .ok (.i2l, 1) := by decide +kernel
theorem d_Mo_ticksBefore_25 : decode prog_12_method_42_code 25 = .ok (.aload_n 0, 1) := by decide +kernel
theorem d_Mo_ticksBefore_26 : decode prog_12_method_42_code 26 = .ok (.getfield 16, 3) := by decide +kernel
theorem d_Mo_ticksBefore_29 : decode prog_12_method_42_code 29 = .ok (.aload_n 0, 1) := by decide +kernel
theorem d_Mo_ticksBefore_30 : decode prog_12_method_42_code 30 = .ok (.getfield 56, 3) := by decide +kernel
theorem d_Mo_ticksBefore_33 : decode prog_12_method_42_code 33 = .ok (.iload 4, 2) := by decide +kernel
theorem d_Mo_ticksBefore_35 : decode prog_12_method_42_code 35 = .ok (.iaload, 1) := by decide +kernel
theorem d_Mo_ticksBefore_36 : decode prog_12_method_42_code 36 = .ok (.iaload, 1) := by decide +kernel
theorem d_Mo_ticksBefore_37 : decode prog_12_method_42_code 37 = .ok (.i2l, 1) := by decide +kernel
theorem d_Mo_ticksBefore_38 : decode prog_12_method_42_code 38 = .ok (.lmul, 1) := by decide +kernel
theorem d_Mo_ticksBefore_39 : decode prog_12_method_42_code 39 = .ok (.ladd, 1) := by decide +kernel
theorem d_Mo_ticksBefore_40 : decode prog_12_method_42_code 40 = .ok (.lstore_n 2, 1) := by decide +kernel
theorem d_Mo_ticksBefore_41 : decode prog_12_method_42_code 41 = .ok (.iinc 4 1, 3) := by decide +kernel
theorem d_Mo_ticksBefore_44 : decode prog_12_method_42_code 44 = .ok (.goto (-39), 3) := by decide +kernel
theorem d_Mo_ticksBefore_47 : decode prog_12_method_42_code 47 = .ok (.lload_n 2, 1) := by decide +kernel
theorem d_Mo_ticksBefore_48 : decode prog_12_method_42_code 48 = .ok (.lreturn, 1) := by decide +kernel
theorem d_Mo_at_0 : decode prog_12_method_44_code 0 = .ok (.aload_n 0, 1) := by decide +kernel
theorem d_Mo_at_1 : decode prog_12_method_44_code 1 = .ok (.aload_n 0, 1) := by decide +kernel
theorem d_Mo_at_2 : decode prog_12_method_44_code 2 = .ok (.invokevirtual 183, 3) := by decide +kernel
theorem d_Mo_at_5 : decode prog_12_method_44_code 5 = .ok (.ifCond .eq 7, 3) := by decide +kernel
theorem d_Mo_at_8 : decode prog_12_method_44_code 8 = .ok (.iconst 0, 1) := by decide +kernel
theorem d_Mo_at_9 : decode prog_12_method_44_code 9 = .ok (.goto 4, 3) := by decide +kernel
theorem d_Mo_at_12 : decode prog_12_method_44_code 12 = .ok (.iconst 1, 1) := by decide +kernel
theorem d_Mo_at_13 : decode prog_12_method_44_code 13 = .ok (.putfield 63, 3) := by decide +kernel
theorem d_Mo_at_16 : decode prog_12_method_44_code 16 = .ok (.aload_n 0, 1) := by decide +kernel
theorem d_Mo_at_17 : decode prog_12_method_44_code 17 = .ok (.getfield 63, 3) := by decide +kernel
theorem d_Mo_at_20 : decode prog_12_method_44_code 20 = .ok (.ifCond .le 5, 3) := by decide +kernel
theorem d_Mo_at_23 : decode prog_12_method_44_code 23 = .ok (.iconst 0, 1) := by decide +kernel
theorem d_Mo_at_24 : decode prog_12_method_44_code 24 = .ok (.ireturn, 1) := by decide +kernel
theorem d_Mo_at_25 : decode prog_12_method_44_code 25 = .ok (.iconst (-1), 1) := by decide +kernel
theorem d_Mo_at_26 : decode prog_12_method_44_code 26 = .ok (.istore_n 3, 1) := by decide +kernel
theorem d_Mo_at_27 : decode prog_12_method_44_code 27 = .ok (.iconst 0, 1) := by decide +kernel
theorem d_Mo_at_28 : decode prog_12_method_44_code 28 = .ok (.istore 4, 2) := by decide +kernel
theorem d_Mo_at_30 : decode prog_12_method_44_code 30 = .ok (.iload 4, 2) := by decide +kernel
theorem d_Mo_at_32 : decode prog_12_method_44_code 32 = .ok (.aload_n 0, 1) := by decide +kernel
theorem d_Mo_at_33 : decode prog_12_method_44_code 33 = .ok (.getfield 159, 3) := by decide +kernel
theorem d_Mo_at_36 : decode prog_12_method_44_code 36 = .ok (.if_icmp .ge 40, 3) := by decide +kernel
theorem d_Mo_at_39 : decode prog_12_method_44_code 39 = .ok (.lload_n 1, 1) := by decide +kernel
theorem d_Mo_at_40 : decode prog_12_method_44_code 40 = .ok (.aload_n 0, 1) := by decide +kernel
theorem d_Mo_at_41 : decode prog_12_method_44_code 41 = .ok (.iload 4, 2) := by decide +kernel
theorem d_Mo_at_43 : decode prog_12_method_44_code 43 = .ok (.invokevirtual 189, 3) := by decide +kernel
theorem d_Mo_at_46 : decode prog_12_method_44_code 46 = .ok (.lcmp, 1) := by decide +kernel
theorem d_Mo_at_47 : decode prog_12_method_44_code 47 = .ok (.ifCond .lt 21, 3) := by decide +kernel
theorem d_Mo_at_50 : decode prog_12_method_44_code 50 = .ok (.lload_n 1, 1) := by decide +kernel
theorem d_Mo_at_51 : decode prog_12_method_44_code 51 = .ok (.aload_n 0, 1) := by decide +kernel
theorem d_Mo_at_52 : decode prog_12_method_44_code 52 = .ok (.iload 4, 2) := by decide +kernel
theorem d_Mo_at_54 : decode prog_12_method_44_code 54 = .ok (.iconst 1, 1) := by decide +kernel
theorem d_Mo_at_55 : decode prog_12_method_44_code 55 = .ok (.iadd, 1) := by decide +kernel
theorem d_Mo_at_56 : decode prog_12_method_44_code 56 = .ok (.invokevirtual 189, 3) := by decide +kernel
theorem d_Mo_at_59 : decode prog_12_method_44_code 59 = .ok (.lcmp, 1) := by decide +kernel
theorem d_Mo_at_60 : decode prog_12_method_44_code 60 = .ok (.ifCond .ge 8, 3) := by decide +kernel
theorem d_Mo_at_63 : decode prog_12_method_44_code 63 = .ok (.iload 4, 2) := by decide +kernel
theorem d_Mo_at_65 : decode prog_12_method_44_code 65 = .ok (.goto 4, 3) := by decide +kernel
theorem d_Mo_at_68 : decode prog_12_method_44_code 68 = .ok (.iload_n 3, 1) := by decide +kernel
theorem d_Mo_at_69 : decode prog_12_method_44_code 69 = .ok (.istore_n 3, 1) := by decide +kernel
theorem d_Mo_at_70 : decode prog_12_method_44_code 70 = .ok (.iinc 4 1, 3) := by decide +kernel
theorem d_Mo_at_73 : decode prog_12_method_44_code 73 = .ok (.goto (-43), 3) := by decide +kernel
theorem d_Mo_at_76 : decode prog_12_method_44_code 76 = .ok (.iload_n 3, 1) := by decide +kernel
theorem d_Mo_at_77 : decode prog_12_method_44_code 77 = .ok (.ireturn, 1) := by decide +kernel
theorem d_Mo_sounds_0 : decode prog_12_method_52_code 0 = .ok (.aload_n 0, 1) := by decide +kernel
theorem d_Mo_sounds_1 : decode prog_12_method_52_code 1 = .ok (.aload_n 0, 1) := by decide +kernel
theorem d_Mo_sounds_2 : decode prog_12_method_52_code 2 = .ok (.iload_n 1, 1) := by decide +kernel
theorem d_Mo_sounds_3 : decode prog_12_method_52_code 3 = .ok (.invokevirtual 220, 3) := by decide +kernel
theorem d_Mo_sounds_6 : decode prog_12_method_52_code 6 = .ok (.putfield 63, 3) := by decide +kernel
theorem d_Mo_sounds_9 : decode prog_12_method_52_code 9 = .ok (.aload_n 0, 1) := by decide +kernel
theorem d_Mo_sounds_10 : decode prog_12_method_52_code 10 = .ok (.getfield 63, 3) := by decide +kernel
theorem d_Mo_sounds_13 : decode prog_12_method_52_code 13 = .ok (.ifCond .le 5, 3) := by decide +kernel
theorem d_Mo_sounds_16 : decode prog_12_method_52_code 16 = .ok (.iconst 0, 1) := by decide +kernel
theorem d_Mo_sounds_17 : decode prog_12_method_52_code 17 = .ok (.ireturn, 1) := by decide +kernel
theorem d_Mo_sounds_18 : decode prog_12_method_52_code 18 = .ok (.aload_n 0, 1) := by decide +kernel
theorem d_Mo_sounds_19 : decode prog_12_method_52_code 19 = .ok (.iload_n 1, 1) := by decide +kernel
theorem d_Mo_sounds_20 : decode prog_12_method_52_code 20 = .ok (.iconst (-1), 1) := by decide +kernel
theorem d_Mo_sounds_21 : decode prog_12_method_52_code 21 = .ok (.invokevirtual 223, 3) := by decide +kernel
theorem d_Mo_sounds_24 : decode prog_12_method_52_code 24 = .ok (.istore_n 2, 1) := by decide +kernel
theorem d_Mo_sounds_25 : decode prog_12_method_52_code 25 = .ok (.aload_n 0, 1) := by decide +kernel
theorem d_Mo_sounds_26 : decode prog_12_method_52_code 26 = .ok (.getfield 200, 3) := by decide +kernel
theorem d_Mo_sounds_29 : decode prog_12_method_52_code 29 = .ok (.l2i, 1) := by decide +kernel
theorem d_Mo_sounds_30 : decode prog_12_method_52_code 30 = .ok (.ireturn, 1) := by decide +kernel
theorem d_Mo_wrongPart_0 : decode prog_12_method_51_code 0 = .ok (.iload_n 1, 1) := by decide +kernel
theorem d_Mo_wrongPart_1 : decode prog_12_method_51_code 1 = .ok (.invokestatic 81, 3) := by decide +kernel
theorem d_Mo_wrongPart_4 : decode prog_12_method_51_code 4 = .ok (.ifCond .ne 7, 3) := by decide +kernel
theorem d_Mo_wrongPart_7 : decode prog_12_method_51_code 7 = .ok (.iconst 1, 1) := by decide +kernel
theorem d_Mo_wrongPart_8 : decode prog_12_method_51_code 8 = .ok (.goto 15, 3) := by decide +kernel
theorem d_Mo_wrongPart_11 : decode prog_12_method_51_code 11 = .ok (.aload_n 0, 1) := by decide +kernel
theorem d_Mo_wrongPart_12 : decode prog_12_method_51_code 12 = .ok (.invokevirtual 183, 3) := by decide +kernel
theorem d_Mo_wrongPart_15 : decode prog_12_method_51_code 15 = .ok (.ifCond .ne 7, 3) := by decide +kernel
theorem d_Mo_wrongPart_18 : decode prog_12_method_51_code 18 = .ok (.iconst 2, 1) := by decide +kernel
theorem d_Mo_wrongPart_19 : decode prog_12_method_51_code 19 = .ok (.goto 4, 3) := by decide +kernel
theorem d_Mo_wrongPart_22 : decode prog_12_method_51_code 22 = .ok (.iconst 0, 1) := by decide +kernel
theorem d_Mo_wrongPart_23 : decode prog_12_method_51_code 23 = .ok (.ireturn, 1) := by decide +kernel
theorem d_Mo_seek_0 : decode prog_12_method_50_code 0 = .ok (.iconst 0, 1) := by decide +kernel
theorem d_Mo_seek_1 : decode prog_12_method_50_code 1 = .ok (.istore_n 3, 1) := by decide +kernel
theorem d_Mo_seek_2 : decode prog_12_method_50_code 2 = .ok (.iconst 0, 1) := by decide +kernel
theorem d_Mo_seek_3 : decode prog_12_method_50_code 3 = .ok (.istore 4, 2) := by decide +kernel
theorem d_Mo_seek_5 : decode prog_12_method_50_code 5 = .ok (.iload 4, 2) := by decide +kernel
theorem d_Mo_seek_7 : decode prog_12_method_50_code 7 = .ok (.aload_n 0, 1) := by decide +kernel
theorem d_Mo_seek_8 : decode prog_12_method_50_code 8 = .ok (.getfield 159, 3) := by decide +kernel
theorem d_Mo_seek_11 : decode prog_12_method_50_code 11 = .ok (.if_icmp .ge 95, 3) := by decide +kernel
theorem d_Mo_seek_14 : decode prog_12_method_50_code 14 = .ok (.aload_n 0, 1) := by decide +kernel
theorem d_Mo_seek_15 : decode prog_12_method_50_code 15 = .ok (.iload_n 1, 1) := by decide +kernel
theorem d_Mo_seek_16 : decode prog_12_method_50_code 16 = .ok (.aload_n 0, 1) := by decide +kernel
theorem d_Mo_seek_17 : decode prog_12_method_50_code 17 = .ok (.getfield 56, 3) := by decide +kernel
theorem d_Mo_seek_20 : decode prog_12_method_50_code 20 = .ok (.iload 4, 2) := by decide +kernel
theorem d_Mo_seek_22 : decode prog_12_method_50_code 22 = .ok (.iaload, 1) := by decide +kernel
theorem d_Mo_seek_23 : decode prog_12_method_50_code 23 = .ok (.iconst (-1), 1) := by decide +kernel
theorem d_Mo_seek_24 : decode prog_12_method_50_code 24 = .ok (.invokevirtual 210, 3) := by decide +kernel
theorem d_Mo_seek_27 : decode prog_12_method_50_code 27 = .ok (.istore 5, 2) := by decide +kernel
theorem d_Mo_seek_29 : decode prog_12_method_50_code 29 = .ok (.iload 5, 2) := by decide +kernel
theorem d_Mo_seek_31 : decode prog_12_method_50_code 31 = .ok (.ifCond .lt 69, 3) := by decide +kernel
theorem d_Mo_seek_34 : decode prog_12_method_50_code 34 = .ok (.aload_n 0, 1) := by decide +kernel
theorem d_Mo_seek_35 : decode prog_12_method_50_code 35 = .ok (.iload 5, 2) := by decide +kernel
theorem d_Mo_seek_37 : decode prog_12_method_50_code 37 = .ok (.iload 4, 2) := by decide +kernel
theorem d_Mo_seek_39 : decode prog_12_method_50_code 39 = .ok (.invokevirtual 213, 3) := by decide +kernel
theorem d_Mo_seek_42 : decode prog_12_method_50_code 42 = .ok (.ifCond .ne 22, 3) := by decide +kernel
theorem d_Mo_seek_45 : decode prog_12_method_50_code 45 = .ok (.iload_n 3, 1) := by decide +kernel
theorem d_Mo_seek_46 : decode prog_12_method_50_code 46 = .ok (.iload_n 2, 1) := by decide +kernel
theorem d_Mo_seek_47 : decode prog_12_method_50_code 47 = .ok (.if_icmp .ne 14, 3) := by decide +kernel
theorem d_Mo_seek_50 : decode prog_12_method_50_code 50 = .ok (.aload_n 0, 1) := by decide +kernel
theorem d_Mo_seek_51 : decode prog_12_method_50_code 51 = .ok (.iload 5, 2) := by decide +kernel
theorem d_Mo_seek_53 : decode prog_12_method_50_code 53 = .ok (.iload 4, 2) := by decide +kernel
theorem d_Mo_seek_55 : decode prog_12_method_50_code 55 = .ok (.invokevirtual 216, 3) := by decide +kernel
theorem d_Mo_seek_58 : decode prog_12_method_50_code 58 = .ok (.iload 5, 2) := by decide +kernel
theorem d_Mo_seek_60 : decode prog_12_method_50_code 60 = .ok (.ireturn, 1) := by decide +kernel
theorem d_Mo_seek_61 : decode prog_12_method_50_code 61 = .ok (.iinc 3 1, 3) := by decide +kernel
theorem d_Mo_seek_64 : decode prog_12_method_50_code 64 = .ok (.aload_n 0, 1) := by decide +kernel
theorem d_Mo_seek_65 : decode prog_12_method_50_code 65 = .ok (.iload_n 1, 1) := by decide +kernel
theorem d_Mo_seek_66 : decode prog_12_method_50_code 66 = .ok (.aload_n 0, 1) := by decide +kernel
theorem d_Mo_seek_67 : decode prog_12_method_50_code 67 = .ok (.getfield 56, 3) := by decide +kernel
theorem d_Mo_seek_70 : decode prog_12_method_50_code 70 = .ok (.iload 4, 2) := by decide +kernel
theorem d_Mo_seek_72 : decode prog_12_method_50_code 72 = .ok (.iaload, 1) := by decide +kernel
theorem d_Mo_seek_73 : decode prog_12_method_50_code 73 = .ok (.sipush 128, 3) := by decide +kernel
theorem d_Mo_seek_76 : decode prog_12_method_50_code 76 = .ok (.aload_n 0, 1) := by decide +kernel
theorem d_Mo_seek_77 : decode prog_12_method_50_code 77 = .ok (.getfield 28, 3) := by decide +kernel
theorem d_Mo_seek_80 : decode prog_12_method_50_code 80 = .ok (.iload 5, 2) := by decide +kernel
theorem d_Mo_seek_82 : decode prog_12_method_50_code 82 = .ok (.iaload, 1) := by decide +kernel
theorem d_Mo_seek_83 : decode prog_12_method_50_code 83 = .ok (.imul, 1) := by decide +kernel
theorem d_Mo_seek_84 : decode prog_12_method_50_code 84 = .ok (.aload_n 0, 1) := by decide +kernel
theorem d_Mo_seek_85 : decode prog_12_method_50_code 85 = .ok (.getfield 34, 3) := by decide +kernel
theorem d_Mo_seek_88 : decode prog_12_method_50_code 88 = .ok (.iload 5, 2) := by decide +kernel
theorem d_Mo_seek_90 : decode prog_12_method_50_code 90 = .ok (.iaload, 1) := by decide +kernel
theorem d_Mo_seek_91 : decode prog_12_method_50_code 91 = .ok (.iadd, 1) := by decide +kernel
theorem d_Mo_seek_92 : decode prog_12_method_50_code 92 = .ok (.invokevirtual 210, 3) := by decide +kernel
theorem d_Mo_seek_95 : decode prog_12_method_50_code 95 = .ok (.istore 5, 2) := by decide +kernel
theorem d_Mo_seek_97 : decode prog_12_method_50_code 97 = .ok (.goto (-68), 3) := by decide +kernel
theorem d_Mo_seek_100 : decode prog_12_method_50_code 100 = .ok (.iinc 4 1, 3) := by decide +kernel
theorem d_Mo_seek_103 : decode prog_12_method_50_code 103 = .ok (.goto (-98), 3) := by decide +kernel
theorem d_Mo_seek_106 : decode prog_12_method_50_code 106 = .ok (.aload_n 0, 1) := by decide +kernel
theorem d_Mo_seek_107 : decode prog_12_method_50_code 107 = .ok (.iload_n 3, 1) := by decide +kernel
theorem d_Mo_seek_108 : decode prog_12_method_50_code 108 = .ok (.i2l, 1) := by decide +kernel
theorem d_Mo_seek_109 : decode prog_12_method_50_code 109 = .ok (.putfield 200, 3) := by decide +kernel
theorem d_Mo_seek_112 : decode prog_12_method_50_code 112 = .ok (.iconst (-1), 1) := by decide +kernel
theorem d_Mo_seek_113 : decode prog_12_method_50_code 113 = .ok (.ireturn, 1) := by decide +kernel
theorem d_Mo_nextNote_0 : decode prog_12_method_49_code 0 = .ok (.iconst (-1), 1) := by decide +kernel
theorem d_Mo_nextNote_1 : decode prog_12_method_49_code 1 = .ok (.istore 4, 2) := by decide +kernel
theorem d_Mo_nextNote_3 : decode prog_12_method_49_code 3 = .ok (.iconst 0, 1) := by decide +kernel
theorem d_Mo_nextNote_4 : decode prog_12_method_49_code 4 = .ok (.istore 5, 2) := by decide +kernel
theorem d_Mo_nextNote_6 : decode prog_12_method_49_code 6 = .ok (.iload 5, 2) := by decide +kernel
theorem d_Mo_nextNote_8 : decode prog_12_method_49_code 8 = .ok (.aload_n 0, 1) := by decide +kernel
theorem d_Mo_nextNote_9 : decode prog_12_method_49_code 9 = .ok (.getfield 78, 3) := by decide +kernel
theorem d_Mo_nextNote_12 : decode prog_12_method_49_code 12 = .ok (.if_icmp .ge 108, 3) := by decide +kernel
theorem d_Mo_nextNote_15 : decode prog_12_method_49_code 15 = .ok (.sipush 128, 3) := by decide +kernel
theorem d_Mo_nextNote_18 : decode prog_12_method_49_code 18 = .ok (.aload_n 0, 1) := by decide +kernel
theorem d_Mo_nextNote_19 : decode prog_12_method_49_code 19 = .ok (.getfield 28, 3) := by decide +kernel
theorem d_Mo_nextNote_22 : decode prog_12_method_49_code 22 = .ok (.iload 5, 2) := by decide +kernel
theorem d_Mo_nextNote_24 : decode prog_12_method_49_code 24 = .ok (.iaload, 1) := by decide +kernel
theorem d_Mo_nextNote_25 : decode prog_12_method_49_code 25 = .ok (.imul, 1) := by decide +kernel
theorem d_Mo_nextNote_26 : decode prog_12_method_49_code 26 = .ok (.aload_n 0, 1) := by decide +kernel
theorem d_Mo_nextNote_27 : decode prog_12_method_49_code 27 = .ok (.getfield 34, 3) := by decide +kernel
theorem d_Mo_nextNote_30 : decode prog_12_method_49_code 30 = .ok (.iload 5, 2) := by decide +kernel
theorem d_Mo_nextNote_32 : decode prog_12_method_49_code 32 = .ok (.iaload, 1) := by decide +kernel
theorem d_Mo_nextNote_33 : decode prog_12_method_49_code 33 = .ok (.iadd, 1) := by decide +kernel
theorem d_Mo_nextNote_34 : decode prog_12_method_49_code 34 = .ok (.istore 6, 2) := by decide +kernel
theorem d_Mo_nextNote_36 : decode prog_12_method_49_code 36 = .ok (.aload_n 0, 1) := by decide +kernel
theorem d_Mo_nextNote_37 : decode prog_12_method_49_code 37 = .ok (.getfield 22, 3) := by decide +kernel
theorem d_Mo_nextNote_40 : decode prog_12_method_49_code 40 = .ok (.iload 5, 2) := by decide +kernel
theorem d_Mo_nextNote_42 : decode prog_12_method_49_code 42 = .ok (.iaload, 1) := by decide +kernel
theorem d_Mo_nextNote_43 : decode prog_12_method_49_code 43 = .ok (.iload_n 1, 1) := by decide +kernel
theorem d_Mo_nextNote_44 : decode prog_12_method_49_code 44 = .ok (.if_icmp .ne 24, 3) := by decide +kernel
theorem d_Mo_nextNote_47 : decode prog_12_method_49_code 47 = .ok (.aload_n 0, 1) := by decide +kernel
theorem d_Mo_nextNote_48 : decode prog_12_method_49_code 48 = .ok (.getfield 25, 3) := by decide +kernel
theorem d_Mo_nextNote_51 : decode prog_12_method_49_code 51 = .ok (.iload 5, 2) := by decide +kernel
theorem d_Mo_nextNote_53 : decode prog_12_method_49_code 53 = .ok (.iaload, 1) := by decide +kernel
theorem d_Mo_nextNote_54 : decode prog_12_method_49_code 54 = .ok (.iload_n 2, 1) := by decide +kernel
theorem d_Mo_nextNote_55 : decode prog_12_method_49_code 55 = .ok (.if_icmp .ne 13, 3) := by decide +kernel
theorem d_Mo_nextNote_58 : decode prog_12_method_49_code 58 = .ok (.iload 6, 2) := by decide +kernel
theorem d_Mo_nextNote_60 : decode prog_12_method_49_code 60 = .ok (.iload_n 3, 1) := by decide +kernel
theorem d_Mo_nextNote_61 : decode prog_12_method_49_code 61 = .ok (.if_icmp .le 7, 3) := by decide +kernel
theorem d_Mo_nextNote_64 : decode prog_12_method_49_code 64 = .ok (.iconst 1, 1) := by decide +kernel
theorem d_Mo_nextNote_65 : decode prog_12_method_49_code 65 = .ok (.goto 4, 3) := by decide +kernel
theorem d_Mo_nextNote_68 : decode prog_12_method_49_code 68 = .ok (.iconst 0, 1) := by decide +kernel
theorem d_Mo_nextNote_69 : decode prog_12_method_49_code 69 = .ok (.istore 7, 2) := by decide +kernel
theorem d_Mo_nextNote_71 : decode prog_12_method_49_code 71 = .ok (.iload 7, 2) := by decide +kernel
theorem d_Mo_nextNote_73 : decode prog_12_method_49_code 73 = .ok (.ifCond .eq 37, 3) := by decide +kernel
theorem d_Mo_nextNote_76 : decode prog_12_method_49_code 76 = .ok (.iload 4, 2) := by decide +kernel
theorem d_Mo_nextNote_78 : decode prog_12_method_49_code 78 = .ok (.ifCond .lt 27, 3) := by decide +kernel
theorem d_Mo_nextNote_81 : decode prog_12_method_49_code 81 = .ok (.iload 6, 2) := by decide +kernel
theorem d_Mo_nextNote_83 : decode prog_12_method_49_code 83 = .ok (.sipush 128, 3) := by decide +kernel
theorem d_Mo_nextNote_86 : decode prog_12_method_49_code 86 = .ok (.aload_n 0, 1) := by decide +kernel
theorem d_Mo_nextNote_87 : decode prog_12_method_49_code 87 = .ok (.getfield 28, 3) := by decide +kernel
theorem d_Mo_nextNote_90 : decode prog_12_method_49_code 90 = .ok (.iload 4, 2) := by decide +kernel
theorem d_Mo_nextNote_92 : decode prog_12_method_49_code 92 = .ok (.iaload, 1) := by decide +kernel
theorem d_Mo_nextNote_93 : decode prog_12_method_49_code 93 = .ok (.imul, 1) := by decide +kernel
theorem d_Mo_nextNote_94 : decode prog_12_method_49_code 94 = .ok (.aload_n 0, 1) := by decide +kernel
theorem d_Mo_nextNote_95 : decode prog_12_method_49_code 95 = .ok (.getfield 34, 3) := by decide +kernel
theorem d_Mo_nextNote_98 : decode prog_12_method_49_code 98 = .ok (.iload 4, 2) := by decide +kernel
theorem d_Mo_nextNote_100 : decode prog_12_method_49_code 100 = .ok (.iaload, 1) := by decide +kernel
theorem d_Mo_nextNote_101 : decode prog_12_method_49_code 101 = .ok (.iadd, 1) := by decide +kernel
theorem d_Mo_nextNote_102 : decode prog_12_method_49_code 102 = .ok (.if_icmp .ge 8, 3) := by decide +kernel
theorem d_Mo_nextNote_105 : decode prog_12_method_49_code 105 = .ok (.iload 5, 2) := by decide +kernel
theorem d_Mo_nextNote_107 : decode prog_12_method_49_code 107 = .ok (.goto 5, 3) := by decide +kernel
theorem d_Mo_nextNote_110 : decode prog_12_method_49_code 110 = .ok (.iload 4, 2) := by decide +kernel
theorem d_Mo_nextNote_112 : decode prog_12_method_49_code 112 = .ok (.istore 4, 2) := by decide +kernel
theorem d_Mo_nextNote_114 : decode prog_12_method_49_code 114 = .ok (.iinc 5 1, 3) := by decide +kernel
theorem d_Mo_nextNote_117 : decode prog_12_method_49_code 117 = .ok (.goto (-111), 3) := by decide +kernel
theorem d_Mo_nextNote_120 : decode prog_12_method_49_code 120 = .ok (.iload 4, 2) := by decide +kernel
theorem d_Mo_nextNote_122 : decode prog_12_method_49_code 122 = .ok (.ireturn, 1) := by decide +kernel
theorem d_Mo_goesOn_0 : decode prog_12_method_47_code 0 = .ok (.iconst 0, 1) := by decide +kernel
theorem d_Mo_goesOn_1 : decode prog_12_method_47_code 1 = .ok (.istore_n 3, 1) := by decide +kernel
theorem d_Mo_goesOn_2 : decode prog_12_method_47_code 2 = .ok (.iconst 0, 1) := by decide +kernel
theorem d_Mo_goesOn_3 : decode prog_12_method_47_code 3 = .ok (.istore 4, 2) := by decide +kernel
theorem d_Mo_goesOn_5 : decode prog_12_method_47_code 5 = .ok (.iload 4, 2) := by decide +kernel
theorem d_Mo_goesOn_7 : decode prog_12_method_47_code 7 = .ok (.aload_n 0, 1) := by decide +kernel
theorem d_Mo_goesOn_8 : decode prog_12_method_47_code 8 = .ok (.getfield 78, 3) := by decide +kernel
theorem d_Mo_goesOn_11 : decode prog_12_method_47_code 11 = .ok (.if_icmp .ge 91, 3) := by decide +kernel
theorem d_Mo_goesOn_14 : decode prog_12_method_47_code 14 = .ok (.iload_n 2, 1) := by decide +kernel
theorem d_Mo_goesOn_15 : decode prog_12_method_47_code 15 = .ok (.ifCond .le 87, 3) := by decide +kernel
theorem d_Mo_goesOn_18 : decode prog_12_method_47_code 18 = .ok (.aload_n 0, 1) := by decide +kernel
theorem d_Mo_goesOn_19 : decode prog_12_method_47_code 19 = .ok (.getfield 28, 3) := by decide +kernel
theorem d_Mo_goesOn_22 : decode prog_12_method_47_code 22 = .ok (.iload_n 1, 1) := by decide +kernel
theorem d_Mo_goesOn_23 : decode prog_12_method_47_code 23 = .ok (.iaload, 1) := by decide +kernel
theorem d_Mo_goesOn_24 : decode prog_12_method_47_code 24 = .ok (.ifCond .ne 78, 3) := by decide +kernel
theorem d_Mo_goesOn_27 : decode prog_12_method_47_code 27 = .ok (.iload_n 3, 1) := by decide +kernel
theorem d_Mo_goesOn_28 : decode prog_12_method_47_code 28 = .ok (.ifCond .ne 62, 3) := by decide +kernel
theorem d_Mo_goesOn_31 : decode prog_12_method_47_code 31 = .ok (.aload_n 0, 1) := by decide +kernel
theorem d_Mo_goesOn_32 : decode prog_12_method_47_code 32 = .ok (.getfield 22, 3) := by decide +kernel
theorem d_Mo_goesOn_35 : decode prog_12_method_47_code 35 = .ok (.iload 4, 2) := by decide +kernel
theorem d_Mo_goesOn_37 : decode prog_12_method_47_code 37 = .ok (.iaload, 1) := by decide +kernel
theorem d_Mo_goesOn_38 : decode prog_12_method_47_code 38 = .ok (.aload_n 0, 1) := by decide +kernel
theorem d_Mo_goesOn_39 : decode prog_12_method_47_code 39 = .ok (.getfield 22, 3) := by decide +kernel
theorem d_Mo_goesOn_42 : decode prog_12_method_47_code 42 = .ok (.iload_n 1, 1) := by decide +kernel
theorem d_Mo_goesOn_43 : decode prog_12_method_47_code 43 = .ok (.iaload, 1) := by decide +kernel
theorem d_Mo_goesOn_44 : decode prog_12_method_47_code 44 = .ok (.if_icmp .ne 50, 3) := by decide +kernel
theorem d_Mo_goesOn_47 : decode prog_12_method_47_code 47 = .ok (.aload_n 0, 1) := by decide +kernel
theorem d_Mo_goesOn_48 : decode prog_12_method_47_code 48 = .ok (.getfield 34, 3) := by decide +kernel
theorem d_Mo_goesOn_51 : decode prog_12_method_47_code 51 = .ok (.iload 4, 2) := by decide +kernel
theorem d_Mo_goesOn_53 : decode prog_12_method_47_code 53 = .ok (.iaload, 1) := by decide +kernel
theorem d_Mo_goesOn_54 : decode prog_12_method_47_code 54 = .ok (.aload_n 0, 1) := by decide +kernel
theorem d_Mo_goesOn_55 : decode prog_12_method_47_code 55 = .ok (.getfield 34, 3) := by decide +kernel
theorem d_Mo_goesOn_58 : decode prog_12_method_47_code 58 = .ok (.iload_n 1, 1) := by decide +kernel
theorem d_Mo_goesOn_59 : decode prog_12_method_47_code 59 = .ok (.iaload, 1) := by decide +kernel
theorem d_Mo_goesOn_60 : decode prog_12_method_47_code 60 = .ok (.if_icmp .ne 34, 3) := by decide +kernel
theorem d_Mo_goesOn_63 : decode prog_12_method_47_code 63 = .ok (.aload_n 0, 1) := by decide +kernel
theorem d_Mo_goesOn_64 : decode prog_12_method_47_code 64 = .ok (.getfield 25, 3) := by decide +kernel
theorem d_Mo_goesOn_67 : decode prog_12_method_47_code 67 = .ok (.iload 4, 2) := by decide +kernel
theorem d_Mo_goesOn_69 : decode prog_12_method_47_code 69 = .ok (.iaload, 1) := by decide +kernel
theorem d_Mo_goesOn_70 : decode prog_12_method_47_code 70 = .ok (.aload_n 0, 1) := by decide +kernel
theorem d_Mo_goesOn_71 : decode prog_12_method_47_code 71 = .ok (.getfield 56, 3) := by decide +kernel
theorem d_Mo_goesOn_74 : decode prog_12_method_47_code 74 = .ok (.iload_n 2, 1) := by decide +kernel
theorem d_Mo_goesOn_75 : decode prog_12_method_47_code 75 = .ok (.iconst 1, 1) := by decide +kernel
theorem d_Mo_goesOn_76 : decode prog_12_method_47_code 76 = .ok (.isub, 1) := by decide +kernel
theorem d_Mo_goesOn_77 : decode prog_12_method_47_code 77 = .ok (.iaload, 1) := by decide +kernel
theorem d_Mo_goesOn_78 : decode prog_12_method_47_code 78 = .ok (.if_icmp .ne 16, 3) := by decide +kernel
theorem d_Mo_goesOn_81 : decode prog_12_method_47_code 81 = .ok (.aload_n 0, 1) := by decide +kernel
theorem d_Mo_goesOn_82 : decode prog_12_method_47_code 82 = .ok (.iload 4, 2) := by decide +kernel
theorem d_Mo_goesOn_84 : decode prog_12_method_47_code 84 = .ok (.invokevirtual 193, 3) := by decide +kernel
theorem d_Mo_goesOn_87 : decode prog_12_method_47_code 87 = .ok (.ifCond .eq 7, 3) := by decide +kernel
theorem d_Mo_goesOn_90 : decode prog_12_method_47_code 90 = .ok (.iconst 1, 1) := by decide +kernel
theorem d_Mo_goesOn_91 : decode prog_12_method_47_code 91 = .ok (.goto 4, 3) := by decide +kernel
theorem d_Mo_goesOn_94 : decode prog_12_method_47_code 94 = .ok (.iconst 0, 1) := by decide +kernel
theorem d_Mo_goesOn_95 : decode prog_12_method_47_code 95 = .ok (.istore_n 3, 1) := by decide +kernel
theorem d_Mo_goesOn_96 : decode prog_12_method_47_code 96 = .ok (.iinc 4 1, 3) := by decide +kernel
theorem d_Mo_goesOn_99 : decode prog_12_method_47_code 99 = .ok (.goto (-94), 3) := by decide +kernel
theorem d_Mo_goesOn_102 : decode prog_12_method_47_code 102 = .ok (.iload_n 3, 1) := by decide +kernel
theorem d_Mo_goesOn_103 : decode prog_12_method_47_code 103 = .ok (.ireturn, 1) := by decide +kernel
theorem d_Mo_reaches_0 : decode prog_12_method_45_code 0 = .ok (.aload_n 0, 1) := by decide +kernel
theorem d_Mo_reaches_1 : decode prog_12_method_45_code 1 = .ok (.getfield 37, 3) := by decide +kernel
theorem d_Mo_reaches_4 : decode prog_12_method_45_code 4 = .ok (.iload_n 1, 1) := by decide +kernel
theorem d_Mo_reaches_5 : decode prog_12_method_45_code 5 = .ok (.baload, 1) := by decide +kernel
theorem d_Mo_reaches_6 : decode prog_12_method_45_code 6 = .ok (.ifCond .eq 34, 3) := by decide +kernel
theorem d_Mo_reaches_9 : decode prog_12_method_45_code 9 = .ok (.aload_n 0, 1) := by decide +kernel
theorem d_Mo_reaches_10 : decode prog_12_method_45_code 10 = .ok (.getfield 28, 3) := by decide +kernel
theorem d_Mo_reaches_13 : decode prog_12_method_45_code 13 = .ok (.iload_n 1, 1) := by decide +kernel
theorem d_Mo_reaches_14 : decode prog_12_method_45_code 14 = .ok (.iaload, 1) := by decide +kernel
theorem d_Mo_reaches_15 : decode prog_12_method_45_code 15 = .ok (.aload_n 0, 1) := by decide +kernel
theorem d_Mo_reaches_16 : decode prog_12_method_45_code 16 = .ok (.getfield 31, 3) := by decide +kernel
theorem d_Mo_reaches_19 : decode prog_12_method_45_code 19 = .ok (.iload_n 1, 1) := by decide +kernel
theorem d_Mo_reaches_20 : decode prog_12_method_45_code 20 = .ok (.iaload, 1) := by decide +kernel
theorem d_Mo_reaches_21 : decode prog_12_method_45_code 21 = .ok (.iadd, 1) := by decide +kernel
theorem d_Mo_reaches_22 : decode prog_12_method_45_code 22 = .ok (.aload_n 0, 1) := by decide +kernel
theorem d_Mo_reaches_23 : decode prog_12_method_45_code 23 = .ok (.getfield 13, 3) := by decide +kernel
theorem d_Mo_reaches_26 : decode prog_12_method_45_code 26 = .ok (.aload_n 0, 1) := by decide +kernel
theorem d_Mo_reaches_27 : decode prog_12_method_45_code 27 = .ok (.getfield 25, 3) := by decide +kernel
theorem d_Mo_reaches_30 : decode prog_12_method_45_code 30 = .ok (.iload_n 1, 1) := by decide +kernel
theorem d_Mo_reaches_31 : decode prog_12_method_45_code 31 = .ok (.iaload, 1) := by decide +kernel
theorem d_Mo_reaches_32 : decode prog_12_method_45_code 32 = .ok (.iaload, 1) := by decide +kernel
theorem d_Mo_reaches_33 : decode prog_12_method_45_code 33 = .ok (.if_icmp .ne 7, 3) := by decide +kernel
theorem d_Mo_reaches_36 : decode prog_12_method_45_code 36 = .ok (.iconst 1, 1) := by decide +kernel
theorem d_Mo_reaches_37 : decode prog_12_method_45_code 37 = .ok (.goto 4, 3) := by decide +kernel
theorem d_Mo_reaches_40 : decode prog_12_method_45_code 40 = .ok (.iconst 0, 1) := by decide +kernel
theorem d_Mo_reaches_41 : decode prog_12_method_45_code 41 = .ok (.ireturn, 1) := by decide +kernel
theorem d_Mo_follow_0 : decode prog_12_method_48_code 0 = .ok (.aload_n 0, 1) := by decide +kernel
theorem d_Mo_follow_1 : decode prog_12_method_48_code 1 = .ok (.aload_n 0, 1) := by decide +kernel
theorem d_Mo_follow_2 : decode prog_12_method_48_code 2 = .ok (.iload_n 2, 1) := by decide +kernel
theorem d_Mo_follow_3 : decode prog_12_method_48_code 3 = .ok (.invokevirtual 189, 3) := by decide +kernel
theorem d_Mo_follow_6 : decode prog_12_method_48_code 6 = .ok (.aload_n 0, 1) := by decide +kernel
theorem d_Mo_follow_7 : decode prog_12_method_48_code 7 = .ok (.getfield 28, 3) := by decide +kernel
theorem d_Mo_follow_10 : decode prog_12_method_48_code 10 = .ok (.iload_n 1, 1) := by decide +kernel
theorem d_Mo_follow_11 : decode prog_12_method_48_code 11 = .ok (.iaload, 1) := by decide +kernel
theorem d_Mo_follow_12 : decode prog_12_method_48_code 12 = .ok (.i2l, 1) := by decide +kernel
theorem d_Mo_follow_13 : decode prog_12_method_48_code 13 = .ok (.aload_n 0, 1) := by decide +kernel
theorem d_Mo_follow_14 : decode prog_12_method_48_code 14 = .ok (.getfield 16, 3) := by decide +kernel
theorem d_Mo_follow_17 : decode prog_12_method_48_code 17 = .ok (.aload_n 0, 1) := by decide +kernel
theorem d_Mo_follow_18 : decode prog_12_method_48_code 18 = .ok (.getfield 25, 3) := by decide +kernel
theorem d_Mo_follow_21 : decode prog_12_method_48_code 21 = .ok (.iload_n 1, 1) := by decide +kernel
theorem d_Mo_follow_22 : decode prog_12_method_48_code 22 = .ok (.iaload, 1) := by decide +kernel
theorem d_Mo_follow_23 : decode prog_12_method_48_code 23 = .ok (.iaload, 1) := by decide +kernel
theorem d_Mo_follow_24 : decode prog_12_method_48_code 24 = .ok (.i2l, 1) := by decide +kernel
theorem d_Mo_follow_25 : decode prog_12_method_48_code 25 = .ok (.lmul, 1) := by decide +kernel
theorem d_Mo_follow_26 : decode prog_12_method_48_code 26 = .ok (.ladd, 1) := by decide +kernel
theorem d_Mo_follow_27 : decode prog_12_method_48_code 27 = .ok (.putfield 196, 3) := by decide +kernel
theorem d_Mo_follow_30 : decode prog_12_method_48_code 30 = .ok (.aload_n 0, 1) := by decide +kernel
theorem d_Mo_follow_31 : decode prog_12_method_48_code 31 = .ok (.lconst 0, 1) := by decide +kernel
theorem d_Mo_follow_32 : decode prog_12_method_48_code 32 = .ok (.putfield 200, 3) := by decide +kernel
theorem d_Mo_follow_35 : decode prog_12_method_48_code 35 = .ok (.aload_n 0, 1) := by decide +kernel
theorem d_Mo_follow_36 : decode prog_12_method_48_code 36 = .ok (.lconst 0, 1) := by decide +kernel
theorem d_Mo_follow_37 : decode prog_12_method_48_code 37 = .ok (.putfield 203, 3) := by decide +kernel
theorem d_Mo_follow_40 : decode prog_12_method_48_code 40 = .ok (.iload_n 1, 1) := by decide +kernel
theorem d_Mo_follow_41 : decode prog_12_method_48_code 41 = .ok (.istore_n 3, 1) := by decide +kernel
theorem d_Mo_follow_42 : decode prog_12_method_48_code 42 = .ok (.iload_n 2, 1) := by decide +kernel
theorem d_Mo_follow_43 : decode prog_12_method_48_code 43 = .ok (.istore 4, 2) := by decide +kernel
theorem d_Mo_follow_45 : decode prog_12_method_48_code 45 = .ok (.iload_n 3, 1) := by decide +kernel
theorem d_Mo_follow_46 : decode prog_12_method_48_code 46 = .ok (.ifCond .lt 99, 3) := by decide +kernel
theorem d_Mo_follow_49 : decode prog_12_method_48_code 49 = .ok (.aload_n 0, 1) := by decide +kernel
theorem d_Mo_follow_50 : decode prog_12_method_48_code 50 = .ok (.aload_n 0, 1) := by decide +kernel
theorem d_Mo_follow_51 : decode prog_12_method_48_code 51 = .ok (.getfield 200, 3) := by decide +kernel
theorem d_Mo_follow_54 : decode prog_12_method_48_code 54 = .ok (.aload_n 0, 1) := by decide +kernel
theorem d_Mo_follow_55 : decode prog_12_method_48_code 55 = .ok (.getfield 31, 3) := by decide +kernel
theorem d_Mo_follow_58 : decode prog_12_method_48_code 58 = .ok (.iload_n 3, 1) := by decide +kernel
theorem d_Mo_follow_59 : decode prog_12_method_48_code 59 = .ok (.iaload, 1) := by decide +kernel
theorem d_Mo_follow_60 : decode prog_12_method_48_code 60 = .ok (.i2l, 1) := by decide +kernel
theorem d_Mo_follow_61 : decode prog_12_method_48_code 61 = .ok (.ladd, 1) := by decide +kernel
theorem d_Mo_follow_62 : decode prog_12_method_48_code 62 = .ok (.putfield 200, 3) := by decide +kernel
theorem d_Mo_follow_65 : decode prog_12_method_48_code 65 = .ok (.aload_n 0, 1) := by decide +kernel
theorem d_Mo_follow_66 : decode prog_12_method_48_code 66 = .ok (.aload_n 0, 1) := by decide +kernel
theorem d_Mo_follow_67 : decode prog_12_method_48_code 67 = .ok (.getfield 203, 3) := by decide +kernel
theorem d_Mo_follow_70 : decode prog_12_method_48_code 70 = .ok (.aload_n 0, 1) := by decide +kernel
theorem d_Mo_follow_71 : decode prog_12_method_48_code 71 = .ok (.getfield 31, 3) := by decide +kernel
theorem d_Mo_follow_74 : decode prog_12_method_48_code 74 = .ok (.iload_n 3, 1) := by decide +kernel
theorem d_Mo_follow_75 : decode prog_12_method_48_code 75 = .ok (.iaload, 1) := by decide +kernel
theorem d_Mo_follow_76 : decode prog_12_method_48_code 76 = .ok (.i2l, 1) := by decide +kernel
theorem d_Mo_follow_77 : decode prog_12_method_48_code 77 = .ok (.aload_n 0, 1) := by decide +kernel
theorem d_Mo_follow_78 : decode prog_12_method_48_code 78 = .ok (.getfield 16, 3) := by decide +kernel
theorem d_Mo_follow_81 : decode prog_12_method_48_code 81 = .ok (.aload_n 0, 1) := by decide +kernel
theorem d_Mo_follow_82 : decode prog_12_method_48_code 82 = .ok (.getfield 25, 3) := by decide +kernel
theorem d_Mo_follow_85 : decode prog_12_method_48_code 85 = .ok (.iload_n 3, 1) := by decide +kernel
theorem d_Mo_follow_86 : decode prog_12_method_48_code 86 = .ok (.iaload, 1) := by decide +kernel
theorem d_Mo_follow_87 : decode prog_12_method_48_code 87 = .ok (.iaload, 1) := by decide +kernel
theorem d_Mo_follow_88 : decode prog_12_method_48_code 88 = .ok (.i2l, 1) := by decide +kernel
theorem d_Mo_follow_89 : decode prog_12_method_48_code 89 = .ok (.lmul, 1) := by decide +kernel
theorem d_Mo_follow_90 : decode prog_12_method_48_code 90 = .ok (.ladd, 1) := by decide +kernel
theorem d_Mo_follow_91 : decode prog_12_method_48_code 91 = .ok (.putfield 203, 3) := by decide +kernel
theorem d_Mo_follow_94 : decode prog_12_method_48_code 94 = .ok (.iinc 4 1, 3) := by decide +kernel
theorem d_Mo_follow_97 : decode prog_12_method_48_code 97 = .ok (.aload_n 0, 1) := by decide +kernel
theorem d_Mo_follow_98 : decode prog_12_method_48_code 98 = .ok (.iload_n 3, 1) := by decide +kernel
theorem d_Mo_follow_99 : decode prog_12_method_48_code 99 = .ok (.invokevirtual 193, 3) := by decide +kernel
theorem d_Mo_follow_102 : decode prog_12_method_48_code 102 = .ok (.ifCond .eq 38, 3) := by decide +kernel
theorem d_Mo_follow_105 : decode prog_12_method_48_code 105 = .ok (.iload 4, 2) := by decide +kernel
theorem d_Mo_follow_107 : decode prog_12_method_48_code 107 = .ok (.aload_n 0, 1) := by decide +kernel
theorem d_Mo_follow_108 : decode prog_12_method_48_code 108 = .ok (.getfield 159, 3) := by decide +kernel
theorem d_Mo_follow_111 : decode prog_12_method_48_code 111 = .ok (.if_icmp .ge 29, 3) := by decide +kernel
theorem d_Mo_follow_114 : decode prog_12_method_48_code 114 = .ok (.aload_n 0, 1) := by decide +kernel
theorem d_Mo_follow_115 : decode prog_12_method_48_code 115 = .ok (.aload_n 0, 1) := by decide +kernel
theorem d_Mo_follow_116 : decode prog_12_method_48_code 116 = .ok (.getfield 22, 3) := by decide +kernel
theorem d_Mo_follow_119 : decode prog_12_method_48_code 119 = .ok (.iload_n 1, 1) := by decide +kernel
theorem d_Mo_follow_120 : decode prog_12_method_48_code 120 = .ok (.iaload, 1) := by decide +kernel
theorem d_Mo_follow_121 : decode prog_12_method_48_code 121 = .ok (.aload_n 0, 1) := by decide +kernel
theorem d_Mo_follow_122 : decode prog_12_method_48_code 122 = .ok (.getfield 56, 3) := by decide +kernel
theorem d_Mo_follow_125 : decode prog_12_method_48_code 125 = .ok (.iload 4, 2) := by decide +kernel
theorem d_Mo_follow_127 : decode prog_12_method_48_code 127 = .ok (.iaload, 1) := by decide +kernel
theorem d_Mo_follow_128 : decode prog_12_method_48_code 128 = .ok (.aload_n 0, 1) := by decide +kernel
theorem d_Mo_follow_129 : decode prog_12_method_48_code 129 = .ok (.getfield 34, 3) := by decide +kernel
theorem d_Mo_follow_132 : decode prog_12_method_48_code 132 = .ok (.iload_n 1, 1) := by decide +kernel
theorem d_Mo_follow_133 : decode prog_12_method_48_code 133 = .ok (.iaload, 1) := by decide +kernel
theorem d_Mo_follow_134 : decode prog_12_method_48_code 134 = .ok (.invokevirtual 206, 3) := by decide +kernel
theorem d_Mo_follow_137 : decode prog_12_method_48_code 137 = .ok (.goto 4, 3) := by decide +kernel
theorem d_Mo_follow_140 : decode prog_12_method_48_code 140 = .ok (.iconst (-1), 1) := by decide +kernel
theorem d_Mo_follow_141 : decode prog_12_method_48_code 141 = .ok (.istore_n 3, 1) := by decide +kernel
theorem d_Mo_follow_142 : decode prog_12_method_48_code 142 = .ok (.goto (-97), 3) := by decide +kernel
theorem d_Mo_follow_145 : decode prog_12_method_48_code 145 = .ok (.return_, 1) := by decide +kernel
theorem d_Mo_opening_0 : decode prog_12_method_46_code 0 = .ok (.iconst (-1), 1) := by decide +kernel
theorem d_Mo_opening_1 : decode prog_12_method_46_code 1 = .ok (.istore 4, 2) := by decide +kernel
theorem d_Mo_opening_3 : decode prog_12_method_46_code 3 = .ok (.iconst 0, 1) := by decide +kernel
theorem d_Mo_opening_4 : decode prog_12_method_46_code 4 = .ok (.istore 5, 2) := by decide +kernel
theorem d_Mo_opening_6 : decode prog_12_method_46_code 6 = .ok (.iload 5, 2) := by decide +kernel
theorem d_Mo_opening_8 : decode prog_12_method_46_code 8 = .ok (.aload_n 0, 1) := by decide +kernel
theorem d_Mo_opening_9 : decode prog_12_method_46_code 9 = .ok (.getfield 78, 3) := by decide +kernel
theorem d_Mo_opening_12 : decode prog_12_method_46_code 12 = .ok (.if_icmp .ge 61, 3) := by decide +kernel
theorem d_Mo_opening_15 : decode prog_12_method_46_code 15 = .ok (.aload_n 0, 1) := by decide +kernel
theorem d_Mo_opening_16 : decode prog_12_method_46_code 16 = .ok (.getfield 22, 3) := by decide +kernel
theorem d_Mo_opening_19 : decode prog_12_method_46_code 19 = .ok (.iload 5, 2) := by decide +kernel
theorem d_Mo_opening_21 : decode prog_12_method_46_code 21 = .ok (.iaload, 1) := by decide +kernel
theorem d_Mo_opening_22 : decode prog_12_method_46_code 22 = .ok (.iload_n 1, 1) := by decide +kernel
theorem d_Mo_opening_23 : decode prog_12_method_46_code 23 = .ok (.if_icmp .ne 40, 3) := by decide +kernel
theorem d_Mo_opening_26 : decode prog_12_method_46_code 26 = .ok (.aload_n 0, 1) := by decide +kernel
theorem d_Mo_opening_27 : decode prog_12_method_46_code 27 = .ok (.getfield 25, 3) := by decide +kernel
theorem d_Mo_opening_30 : decode prog_12_method_46_code 30 = .ok (.iload 5, 2) := by decide +kernel
theorem d_Mo_opening_32 : decode prog_12_method_46_code 32 = .ok (.iaload, 1) := by decide +kernel
theorem d_Mo_opening_33 : decode prog_12_method_46_code 33 = .ok (.iload_n 2, 1) := by decide +kernel
theorem d_Mo_opening_34 : decode prog_12_method_46_code 34 = .ok (.if_icmp .ne 29, 3) := by decide +kernel
theorem d_Mo_opening_37 : decode prog_12_method_46_code 37 = .ok (.aload_n 0, 1) := by decide +kernel
theorem d_Mo_opening_38 : decode prog_12_method_46_code 38 = .ok (.getfield 28, 3) := by decide +kernel
theorem d_Mo_opening_41 : decode prog_12_method_46_code 41 = .ok (.iload 5, 2) := by decide +kernel
theorem d_Mo_opening_43 : decode prog_12_method_46_code 43 = .ok (.iaload, 1) := by decide +kernel
theorem d_Mo_opening_44 : decode prog_12_method_46_code 44 = .ok (.ifCond .ne 19, 3) := by decide +kernel
theorem d_Mo_opening_47 : decode prog_12_method_46_code 47 = .ok (.aload_n 0, 1) := by decide +kernel
theorem d_Mo_opening_48 : decode prog_12_method_46_code 48 = .ok (.getfield 34, 3) := by decide +kernel
theorem d_Mo_opening_51 : decode prog_12_method_46_code 51 = .ok (.iload 5, 2) := by decide +kernel
theorem d_Mo_opening_53 : decode prog_12_method_46_code 53 = .ok (.iaload, 1) := by decide +kernel
theorem d_Mo_opening_54 : decode prog_12_method_46_code 54 = .ok (.iload_n 3, 1) := by decide +kernel
theorem d_Mo_opening_55 : decode prog_12_method_46_code 55 = .ok (.if_icmp .ne 8, 3) := by decide +kernel
theorem d_Mo_opening_58 : decode prog_12_method_46_code 58 = .ok (.iload 5, 2) := by decide +kernel
theorem d_Mo_opening_60 : decode prog_12_method_46_code 60 = .ok (.goto 5, 3) := by decide +kernel
theorem d_Mo_opening_63 : decode prog_12_method_46_code 63 = .ok (.iload 4, 2) := by decide +kernel
theorem d_Mo_opening_65 : decode prog_12_method_46_code 65 = .ok (.istore 4, 2) := by decide +kernel
theorem d_Mo_opening_67 : decode prog_12_method_46_code 67 = .ok (.iinc 5 1, 3) := by decide +kernel
theorem d_Mo_opening_70 : decode prog_12_method_46_code 70 = .ok (.goto (-64), 3) := by decide +kernel
theorem d_Mo_opening_73 : decode prog_12_method_46_code 73 = .ok (.iload 4, 2) := by decide +kernel
theorem d_Mo_opening_75 : decode prog_12_method_46_code 75 = .ok (.ireturn, 1) := by decide +kernel
theorem d_Mo_sound_0 : decode prog_12_method_53_code 0 = .ok (.aload_n 0, 1) := by decide +kernel
theorem d_Mo_sound_1 : decode prog_12_method_53_code 1 = .ok (.aload_n 0, 1) := by decide +kernel
theorem d_Mo_sound_2 : decode prog_12_method_53_code 2 = .ok (.iload_n 1, 1) := by decide +kernel
theorem d_Mo_sound_3 : decode prog_12_method_53_code 3 = .ok (.invokevirtual 220, 3) := by decide +kernel
theorem d_Mo_sound_6 : decode prog_12_method_53_code 6 = .ok (.putfield 63, 3) := by decide +kernel
theorem d_Mo_sound_9 : decode prog_12_method_53_code 9 = .ok (.aload_n 0, 1) := by decide +kernel
theorem d_Mo_sound_10 : decode prog_12_method_53_code 10 = .ok (.getfield 63, 3) := by decide +kernel
theorem d_Mo_sound_13 : decode prog_12_method_53_code 13 = .ok (.ifCond .le 5, 3) := by decide +kernel
theorem d_Mo_sound_16 : decode prog_12_method_53_code 16 = .ok (.lconst 0, 1) := by decide +kernel
theorem d_Mo_sound_17 : decode prog_12_method_53_code 17 = .ok (.lreturn, 1) := by decide +kernel
theorem d_Mo_sound_18 : decode prog_12_method_53_code 18 = .ok (.iload_n 2, 1) := by decide +kernel
theorem d_Mo_sound_19 : decode prog_12_method_53_code 19 = .ok (.ifCond .ge 7, 3) := by decide +kernel
theorem d_Mo_sound_22 : decode prog_12_method_53_code 22 = .ok (.iconst (-1), 1) := by decide +kernel
theorem d_Mo_sound_23 : decode prog_12_method_53_code 23 = .ok (.goto 9, 3) := by decide +kernel
theorem d_Mo_sound_26 : decode prog_12_method_53_code 26 = .ok (.aload_n 0, 1) := by decide +kernel
theorem d_Mo_sound_27 : decode prog_12_method_53_code 27 = .ok (.iload_n 1, 1) := by decide +kernel
theorem d_Mo_sound_28 : decode prog_12_method_53_code 28 = .ok (.iload_n 2, 1) := by decide +kernel
theorem d_Mo_sound_29 : decode prog_12_method_53_code 29 = .ok (.invokevirtual 223, 3) := by decide +kernel
theorem d_Mo_sound_32 : decode prog_12_method_53_code 32 = .ok (.istore 4, 2) := by decide +kernel
theorem d_Mo_sound_34 : decode prog_12_method_53_code 34 = .ok (.iload 4, 2) := by decide +kernel
theorem d_Mo_sound_36 : decode prog_12_method_53_code 36 = .ok (.ifCond .lt 12, 3) := by decide +kernel
theorem d_Mo_sound_39 : decode prog_12_method_53_code 39 = .ok (.iload_n 3, 1) := by decide +kernel
theorem d_Mo_sound_40 : decode prog_12_method_53_code 40 = .ok (.iconst 0, 1) := by decide +kernel
theorem d_Mo_sound_41 : decode prog_12_method_53_code 41 = .ok (.iconst 3, 1) := by decide +kernel
theorem d_Mo_sound_42 : decode prog_12_method_53_code 42 = .ok (.invokestatic 66, 3) := by decide +kernel
theorem d_Mo_sound_45 : decode prog_12_method_53_code 45 = .ok (.ifCond .ne 7, 3) := by decide +kernel
theorem d_Mo_sound_48 : decode prog_12_method_53_code 48 = .ok (.ldc2_w 226, 3) := by decide +kernel
theorem d_Mo_sound_51 : decode prog_12_method_53_code 51 = .ok (.lreturn, 1) := by decide +kernel
theorem d_Mo_sound_52 : decode prog_12_method_53_code 52 = .ok (.iload_n 3, 1) := by decide +kernel
theorem d_Mo_sound_53 : decode prog_12_method_53_code 53 = .ok (.ifCond .ne 10, 3) := by decide +kernel
theorem d_Mo_sound_56 : decode prog_12_method_53_code 56 = .ok (.aload_n 0, 1) := by decide +kernel
theorem d_Mo_sound_57 : decode prog_12_method_53_code 57 = .ok (.getfield 196, 3) := by decide +kernel
theorem d_Mo_sound_60 : decode prog_12_method_53_code 60 = .ok (.goto 35, 3) := by decide +kernel
theorem d_Mo_sound_63 : decode prog_12_method_53_code 63 = .ok (.iload_n 3, 1) := by decide +kernel
theorem d_Mo_sound_64 : decode prog_12_method_53_code 64 = .ok (.iconst 1, 1) := by decide +kernel
theorem d_Mo_sound_65 : decode prog_12_method_53_code 65 = .ok (.if_icmp .ne 14, 3) := by decide +kernel
theorem d_Mo_sound_68 : decode prog_12_method_53_code 68 = .ok (.aload_n 0, 1) := by decide +kernel
theorem d_Mo_sound_69 : decode prog_12_method_53_code 69 = .ok (.getfield 34, 3) := by decide +kernel
theorem d_Mo_sound_72 : decode prog_12_method_53_code 72 = .ok (.iload 4, 2) := by decide +kernel
theorem d_Mo_sound_74 : decode prog_12_method_53_code 74 = .ok (.iaload, 1) := by decide +kernel
theorem d_Mo_sound_75 : decode prog_12_method_53_code 75 = .ok (.i2l, 1) := by decide +kernel
theorem d_Mo_sound_76 : decode prog_12_method_53_code 76 = .ok (.goto 19, 3) := by decide +kernel
theorem d_Mo_sound_79 : decode prog_12_method_53_code 79 = .ok (.iload_n 3, 1) := by decide +kernel
theorem d_Mo_sound_80 : decode prog_12_method_53_code 80 = .ok (.iconst 2, 1) := by decide +kernel
theorem d_Mo_sound_81 : decode prog_12_method_53_code 81 = .ok (.if_icmp .ne 10, 3) := by decide +kernel
theorem d_Mo_sound_84 : decode prog_12_method_53_code 84 = .ok (.aload_n 0, 1) := by decide +kernel
theorem d_Mo_sound_85 : decode prog_12_method_53_code 85 = .ok (.getfield 200, 3) := by decide +kernel
theorem d_Mo_sound_88 : decode prog_12_method_53_code 88 = .ok (.goto 7, 3) := by decide +kernel
theorem d_Mo_sound_91 : decode prog_12_method_53_code 91 = .ok (.aload_n 0, 1) := by decide +kernel
theorem d_Mo_sound_92 : decode prog_12_method_53_code 92 = .ok (.getfield 203, 3) := by decide +kernel
theorem d_Mo_sound_95 : decode prog_12_method_53_code 95 = .ok (.lreturn, 1) := by decide +kernel
theorem d_Mo_rest_0 : decode prog_12_method_56_code 0 = .ok (.aload_n 0, 1) := by decide +kernel
theorem d_Mo_rest_1 : decode prog_12_method_56_code 1 = .ok (.iload_n 1, 1) := by decide +kernel
theorem d_Mo_rest_2 : decode prog_12_method_56_code 2 = .ok (.invokestatic 81, 3) := by decide +kernel
theorem d_Mo_rest_5 : decode prog_12_method_56_code 5 = .ok (.ifCond .eq 7, 3) := by decide +kernel
theorem d_Mo_rest_8 : decode prog_12_method_56_code 8 = .ok (.iconst 0, 1) := by decide +kernel
theorem d_Mo_rest_9 : decode prog_12_method_56_code 9 = .ok (.goto 4, 3) := by decide +kernel
theorem d_Mo_rest_12 : decode prog_12_method_56_code 12 = .ok (.iconst 1, 1) := by decide +kernel
theorem d_Mo_rest_13 : decode prog_12_method_56_code 13 = .ok (.putfield 63, 3) := by decide +kernel
theorem d_Mo_rest_16 : decode prog_12_method_56_code 16 = .ok (.aload_n 0, 1) := by decide +kernel
theorem d_Mo_rest_17 : decode prog_12_method_56_code 17 = .ok (.getfield 63, 3) := by decide +kernel
theorem d_Mo_rest_20 : decode prog_12_method_56_code 20 = .ok (.ifCond .le 5, 3) := by decide +kernel
theorem d_Mo_rest_23 : decode prog_12_method_56_code 23 = .ok (.iconst 0, 1) := by decide +kernel
theorem d_Mo_rest_24 : decode prog_12_method_56_code 24 = .ok (.ireturn, 1) := by decide +kernel
theorem d_Mo_rest_25 : decode prog_12_method_56_code 25 = .ok (.iconst 0, 1) := by decide +kernel
theorem d_Mo_rest_26 : decode prog_12_method_56_code 26 = .ok (.istore_n 3, 1) := by decide +kernel
theorem d_Mo_rest_27 : decode prog_12_method_56_code 27 = .ok (.iconst 0, 1) := by decide +kernel
theorem d_Mo_rest_28 : decode prog_12_method_56_code 28 = .ok (.istore 4, 2) := by decide +kernel
theorem d_Mo_rest_30 : decode prog_12_method_56_code 30 = .ok (.iload 4, 2) := by decide +kernel
theorem d_Mo_rest_32 : decode prog_12_method_56_code 32 = .ok (.aload_n 0, 1) := by decide +kernel
theorem d_Mo_rest_33 : decode prog_12_method_56_code 33 = .ok (.getfield 59, 3) := by decide +kernel
theorem d_Mo_rest_36 : decode prog_12_method_56_code 36 = .ok (.if_icmp .ge 99, 3) := by decide +kernel
theorem d_Mo_rest_39 : decode prog_12_method_56_code 39 = .ok (.aload_n 0, 1) := by decide +kernel
theorem d_Mo_rest_40 : decode prog_12_method_56_code 40 = .ok (.iload_n 1, 1) := by decide +kernel
theorem d_Mo_rest_41 : decode prog_12_method_56_code 41 = .ok (.iload 4, 2) := by decide +kernel
theorem d_Mo_rest_43 : decode prog_12_method_56_code 43 = .ok (.invokevirtual 228, 3) := by decide +kernel
theorem d_Mo_rest_46 : decode prog_12_method_56_code 46 = .ok (.ifCond .eq 24, 3) := by decide +kernel
theorem d_Mo_rest_49 : decode prog_12_method_56_code 49 = .ok (.iload 4, 2) := by decide +kernel
theorem d_Mo_rest_51 : decode prog_12_method_56_code 51 = .ok (.ifCond .eq 15, 3) := by decide +kernel
theorem d_Mo_rest_54 : decode prog_12_method_56_code 54 = .ok (.aload_n 0, 1) := by decide +kernel
theorem d_Mo_rest_55 : decode prog_12_method_56_code 55 = .ok (.iload_n 1, 1) := by decide +kernel
theorem d_Mo_rest_56 : decode prog_12_method_56_code 56 = .ok (.iload 4, 2) := by decide +kernel
theorem d_Mo_rest_58 : decode prog_12_method_56_code 58 = .ok (.iconst 1, 1) := by decide +kernel
theorem d_Mo_rest_59 : decode prog_12_method_56_code 59 = .ok (.isub, 1) := by decide +kernel
theorem d_Mo_rest_60 : decode prog_12_method_56_code 60 = .ok (.invokevirtual 231, 3) := by decide +kernel
theorem d_Mo_rest_63 : decode prog_12_method_56_code 63 = .ok (.ifCond .ne 7, 3) := by decide +kernel
theorem d_Mo_rest_66 : decode prog_12_method_56_code 66 = .ok (.iconst 1, 1) := by decide +kernel
theorem d_Mo_rest_67 : decode prog_12_method_56_code 67 = .ok (.goto 4, 3) := by decide +kernel
theorem d_Mo_rest_70 : decode prog_12_method_56_code 70 = .ok (.iconst 0, 1) := by decide +kernel
theorem d_Mo_rest_71 : decode prog_12_method_56_code 71 = .ok (.istore 5, 2) := by decide +kernel
theorem d_Mo_rest_73 : decode prog_12_method_56_code 73 = .ok (.iload 5, 2) := by decide +kernel
theorem d_Mo_rest_75 : decode prog_12_method_56_code 75 = .ok (.ifCond .eq 41, 3) := by decide +kernel
theorem d_Mo_rest_78 : decode prog_12_method_56_code 78 = .ok (.iload_n 3, 1) := by decide +kernel
theorem d_Mo_rest_79 : decode prog_12_method_56_code 79 = .ok (.iload_n 2, 1) := by decide +kernel
theorem d_Mo_rest_80 : decode prog_12_method_56_code 80 = .ok (.if_icmp .ne 36, 3) := by decide +kernel
theorem d_Mo_rest_83 : decode prog_12_method_56_code 83 = .ok (.iconst 1, 1) := by decide +kernel
theorem d_Mo_rest_84 : decode prog_12_method_56_code 84 = .ok (.istore 6, 2) := by decide +kernel
theorem d_Mo_rest_86 : decode prog_12_method_56_code 86 = .ok (.aload_n 0, 1) := by decide +kernel
theorem d_Mo_rest_87 : decode prog_12_method_56_code 87 = .ok (.iload_n 1, 1) := by decide +kernel
theorem d_Mo_rest_88 : decode prog_12_method_56_code 88 = .ok (.iload 4, 2) := by decide +kernel
theorem d_Mo_rest_90 : decode prog_12_method_56_code 90 = .ok (.iload 6, 2) := by decide +kernel
theorem d_Mo_rest_92 : decode prog_12_method_56_code 92 = .ok (.iadd, 1) := by decide +kernel
theorem d_Mo_rest_93 : decode prog_12_method_56_code 93 = .ok (.iconst 1, 1) := by decide +kernel
theorem d_Mo_rest_94 : decode prog_12_method_56_code 94 = .ok (.isub, 1) := by decide +kernel
theorem d_Mo_rest_95 : decode prog_12_method_56_code 95 = .ok (.invokevirtual 231, 3) := by decide +kernel
theorem d_Mo_rest_98 : decode prog_12_method_56_code 98 = .ok (.ifCond .eq 9, 3) := by decide +kernel
theorem d_Mo_rest_101 : decode prog_12_method_56_code 101 = .ok (.iinc 6 1, 3) := by decide +kernel
theorem d_Mo_rest_104 : decode prog_12_method_56_code 104 = .ok (.goto (-18), 3) := by decide +kernel
theorem d_Mo_rest_107 : decode prog_12_method_56_code 107 = .ok (.bipush 100, 2) := by decide +kernel
theorem d_Mo_rest_109 : decode prog_12_method_56_code 109 = .ok (.iload 4, 2) := by decide +kernel
theorem d_Mo_rest_111 : decode prog_12_method_56_code 111 = .ok (.imul, 1) := by decide +kernel
theorem d_Mo_rest_112 : decode prog_12_method_56_code 112 = .ok (.iload 6, 2) := by decide +kernel
theorem d_Mo_rest_114 : decode prog_12_method_56_code 114 = .ok (.iadd, 1) := by decide +kernel
theorem d_Mo_rest_115 : decode prog_12_method_56_code 115 = .ok (.ireturn, 1) := by decide +kernel
theorem d_Mo_rest_116 : decode prog_12_method_56_code 116 = .ok (.iload 5, 2) := by decide +kernel
theorem d_Mo_rest_118 : decode prog_12_method_56_code 118 = .ok (.ifCond .eq 9, 3) := by decide +kernel
theorem d_Mo_rest_121 : decode prog_12_method_56_code 121 = .ok (.iload_n 3, 1) := by decide +kernel
theorem d_Mo_rest_122 : decode prog_12_method_56_code 122 = .ok (.iconst 1, 1) := by decide +kernel
theorem d_Mo_rest_123 : decode prog_12_method_56_code 123 = .ok (.iadd, 1) := by decide +kernel
theorem d_Mo_rest_124 : decode prog_12_method_56_code 124 = .ok (.goto 4, 3) := by decide +kernel
theorem d_Mo_rest_127 : decode prog_12_method_56_code 127 = .ok (.iload_n 3, 1) := by decide +kernel
theorem d_Mo_rest_128 : decode prog_12_method_56_code 128 = .ok (.istore_n 3, 1) := by decide +kernel
theorem d_Mo_rest_129 : decode prog_12_method_56_code 129 = .ok (.iinc 4 1, 3) := by decide +kernel
theorem d_Mo_rest_132 : decode prog_12_method_56_code 132 = .ok (.goto (-102), 3) := by decide +kernel
theorem d_Mo_rest_135 : decode prog_12_method_56_code 135 = .ok (.iconst (-1), 1) := by decide +kernel
theorem d_Mo_rest_136 : decode prog_12_method_56_code 136 = .ok (.ireturn, 1) := by decide +kernel
theorem d_Mo_isRest_0 : decode prog_12_method_54_code 0 = .ok (.aload_n 0, 1) := by decide +kernel
theorem d_Mo_isRest_1 : decode prog_12_method_54_code 1 = .ok (.iload_n 2, 1) := by decide +kernel
theorem d_Mo_isRest_2 : decode prog_12_method_54_code 2 = .ok (.invokevirtual 74, 3) := by decide +kernel
theorem d_Mo_isRest_5 : decode prog_12_method_54_code 5 = .ok (.istore_n 3, 1) := by decide +kernel
theorem d_Mo_isRest_6 : decode prog_12_method_54_code 6 = .ok (.iconst 0, 1) := by decide +kernel
theorem d_Mo_isRest_7 : decode prog_12_method_54_code 7 = .ok (.istore 4, 2) := by decide +kernel
theorem d_Mo_isRest_9 : decode prog_12_method_54_code 9 = .ok (.iload 4, 2) := by decide +kernel
theorem d_Mo_isRest_11 : decode prog_12_method_54_code 11 = .ok (.aload_n 0, 1) := by decide +kernel
theorem d_Mo_isRest_12 : decode prog_12_method_54_code 12 = .ok (.getfield 78, 3) := by decide +kernel
theorem d_Mo_isRest_15 : decode prog_12_method_54_code 15 = .ok (.if_icmp .ge 41, 3) := by decide +kernel
theorem d_Mo_isRest_18 : decode prog_12_method_54_code 18 = .ok (.iload_n 3, 1) := by decide +kernel
theorem d_Mo_isRest_19 : decode prog_12_method_54_code 19 = .ok (.ifCond .eq 29, 3) := by decide +kernel
theorem d_Mo_isRest_22 : decode prog_12_method_54_code 22 = .ok (.aload_n 0, 1) := by decide +kernel
theorem d_Mo_isRest_23 : decode prog_12_method_54_code 23 = .ok (.getfield 22, 3) := by decide +kernel
theorem d_Mo_isRest_26 : decode prog_12_method_54_code 26 = .ok (.iload 4, 2) := by decide +kernel
theorem d_Mo_isRest_28 : decode prog_12_method_54_code 28 = .ok (.iaload, 1) := by decide +kernel
theorem d_Mo_isRest_29 : decode prog_12_method_54_code 29 = .ok (.iload_n 1, 1) := by decide +kernel
theorem d_Mo_isRest_30 : decode prog_12_method_54_code 30 = .ok (.if_icmp .ne 14, 3) := by decide +kernel
theorem d_Mo_isRest_33 : decode prog_12_method_54_code 33 = .ok (.aload_n 0, 1) := by decide +kernel
theorem d_Mo_isRest_34 : decode prog_12_method_54_code 34 = .ok (.getfield 25, 3) := by decide +kernel
theorem d_Mo_isRest_37 : decode prog_12_method_54_code 37 = .ok (.iload 4, 2) := by decide +kernel
theorem d_Mo_isRest_39 : decode prog_12_method_54_code 39 = .ok (.iaload, 1) := by decide +kernel
theorem d_Mo_isRest_40 : decode prog_12_method_54_code 40 = .ok (.iload_n 2, 1) := by decide +kernel
theorem d_Mo_isRest_41 : decode prog_12_method_54_code 41 = .ok (.if_icmp .eq 7, 3) := by decide +kernel
theorem d_Mo_isRest_44 : decode prog_12_method_54_code 44 = .ok (.iconst 1, 1) := by decide +kernel
theorem d_Mo_isRest_45 : decode prog_12_method_54_code 45 = .ok (.goto 4, 3) := by decide +kernel
theorem d_Mo_isRest_48 : decode prog_12_method_54_code 48 = .ok (.iconst 0, 1) := by decide +kernel
theorem d_Mo_isRest_49 : decode prog_12_method_54_code 49 = .ok (.istore_n 3, 1) := by decide +kernel
theorem d_Mo_isRest_50 : decode prog_12_method_54_code 50 = .ok (.iinc 4 1, 3) := by decide +kernel
theorem d_Mo_isRest_53 : decode prog_12_method_54_code 53 = .ok (.goto (-44), 3) := by decide +kernel
theorem d_Mo_isRest_56 : decode prog_12_method_54_code 56 = .ok (.iload_n 3, 1) := by decide +kernel
theorem d_Mo_isRest_57 : decode prog_12_method_54_code 57 = .ok (.ireturn, 1) := by decide +kernel
theorem d_Mo_joins_0 : decode prog_12_method_55_code 0 = .ok (.aload_n 0, 1) := by decide +kernel
theorem d_Mo_joins_1 : decode prog_12_method_55_code 1 = .ok (.iload_n 2, 1) := by decide +kernel
theorem d_Mo_joins_2 : decode prog_12_method_55_code 2 = .ok (.iconst 1, 1) := by decide +kernel
theorem d_Mo_joins_3 : decode prog_12_method_55_code 3 = .ok (.invokevirtual 90, 3) := by decide +kernel
theorem d_Mo_joins_6 : decode prog_12_method_55_code 6 = .ok (.ifCond .ne 42, 3) := by decide +kernel
theorem d_Mo_joins_9 : decode prog_12_method_55_code 9 = .ok (.aload_n 0, 1) := by decide +kernel
theorem d_Mo_joins_10 : decode prog_12_method_55_code 10 = .ok (.iload_n 2, 1) := by decide +kernel
theorem d_Mo_joins_11 : decode prog_12_method_55_code 11 = .ok (.iconst 5, 1) := by decide +kernel
theorem d_Mo_joins_12 : decode prog_12_method_55_code 12 = .ok (.invokevirtual 90, 3) := by decide +kernel
theorem d_Mo_joins_15 : decode prog_12_method_55_code 15 = .ok (.ifCond .ne 33, 3) := by decide +kernel
theorem d_Mo_joins_18 : decode prog_12_method_55_code 18 = .ok (.aload_n 0, 1) := by decide +kernel
theorem d_Mo_joins_19 : decode prog_12_method_55_code 19 = .ok (.iload_n 2, 1) := by decide +kernel
theorem d_Mo_joins_20 : decode prog_12_method_55_code 20 = .ok (.bipush 6, 2) := by decide +kernel
theorem d_Mo_joins_22 : decode prog_12_method_55_code 22 = .ok (.invokevirtual 90, 3) := by decide +kernel
theorem d_Mo_joins_25 : decode prog_12_method_55_code 25 = .ok (.ifCond .ne 23, 3) := by decide +kernel
theorem d_Mo_joins_28 : decode prog_12_method_55_code 28 = .ok (.aload_n 0, 1) := by decide +kernel
theorem d_Mo_joins_29 : decode prog_12_method_55_code 29 = .ok (.iload_n 2, 1) := by decide +kernel
theorem d_Mo_joins_30 : decode prog_12_method_55_code 30 = .ok (.bipush 7, 2) := by decide +kernel
theorem d_Mo_joins_32 : decode prog_12_method_55_code 32 = .ok (.invokevirtual 90, 3) := by decide +kernel
theorem d_Mo_joins_35 : decode prog_12_method_55_code 35 = .ok (.ifCond .ne 13, 3) := by decide +kernel
theorem d_Mo_joins_38 : decode prog_12_method_55_code 38 = .ok (.aload_n 0, 1) := by decide +kernel
theorem d_Mo_joins_39 : decode prog_12_method_55_code 39 = .ok (.iload_n 2, 1) := by decide +kernel
theorem d_Mo_joins_40 : decode prog_12_method_55_code 40 = .ok (.bipush 9, 2) := by decide +kernel
theorem d_Mo_joins_42 : decode prog_12_method_55_code 42 = .ok (.invokevirtual 90, 3) := by decide +kernel
theorem d_Mo_joins_45 : decode prog_12_method_55_code 45 = .ok (.ifCond .eq 7, 3) := by decide +kernel
theorem d_Mo_joins_48 : decode prog_12_method_55_code 48 = .ok (.iconst 1, 1) := by decide +kernel
theorem d_Mo_joins_49 : decode prog_12_method_55_code 49 = .ok (.goto 4, 3) := by decide +kernel
theorem d_Mo_joins_52 : decode prog_12_method_55_code 52 = .ok (.iconst 0, 1) := by decide +kernel
theorem d_Mo_joins_53 : decode prog_12_method_55_code 53 = .ok (.istore_n 3, 1) := by decide +kernel
theorem d_Mo_joins_54 : decode prog_12_method_55_code 54 = .ok (.iload_n 2, 1) := by decide +kernel
theorem d_Mo_joins_55 : decode prog_12_method_55_code 55 = .ok (.iconst 1, 1) := by decide +kernel
theorem d_Mo_joins_56 : decode prog_12_method_55_code 56 = .ok (.iadd, 1) := by decide +kernel
theorem d_Mo_joins_57 : decode prog_12_method_55_code 57 = .ok (.istore 4, 2) := by decide +kernel
theorem d_Mo_joins_59 : decode prog_12_method_55_code 59 = .ok (.iload_n 3, 1) := by decide +kernel
theorem d_Mo_joins_60 : decode prog_12_method_55_code 60 = .ok (.ifCond .ne 54, 3) := by decide +kernel
theorem d_Mo_joins_63 : decode prog_12_method_55_code 63 = .ok (.aload_n 0, 1) := by decide +kernel
theorem d_Mo_joins_64 : decode prog_12_method_55_code 64 = .ok (.iload 4, 2) := by decide +kernel
theorem d_Mo_joins_66 : decode prog_12_method_55_code 66 = .ok (.iconst 0, 1) := by decide +kernel
theorem d_Mo_joins_67 : decode prog_12_method_55_code 67 = .ok (.invokevirtual 90, 3) := by decide +kernel
theorem d_Mo_joins_70 : decode prog_12_method_55_code 70 = .ok (.ifCond .ne 44, 3) := by decide +kernel
theorem d_Mo_joins_73 : decode prog_12_method_55_code 73 = .ok (.aload_n 0, 1) := by decide +kernel
theorem d_Mo_joins_74 : decode prog_12_method_55_code 74 = .ok (.iload 4, 2) := by decide +kernel
theorem d_Mo_joins_76 : decode prog_12_method_55_code 76 = .ok (.iconst 2, 1) := by decide +kernel
theorem d_Mo_joins_77 : decode prog_12_method_55_code 77 = .ok (.invokevirtual 90, 3) := by decide +kernel
theorem d_Mo_joins_80 : decode prog_12_method_55_code 80 = .ok (.ifCond .ne 34, 3) := by decide +kernel
theorem d_Mo_joins_83 : decode prog_12_method_55_code 83 = .ok (.aload_n 0, 1) := by decide +kernel
theorem d_Mo_joins_84 : decode prog_12_method_55_code 84 = .ok (.iload 4, 2) := by decide +kernel
theorem d_Mo_joins_86 : decode prog_12_method_55_code 86 = .ok (.iconst 3, 1) := by decide +kernel
theorem d_Mo_joins_87 : decode prog_12_method_55_code 87 = .ok (.invokevirtual 90, 3) := by decide +kernel
theorem d_Mo_joins_90 : decode prog_12_method_55_code 90 = .ok (.ifCond .ne 24, 3) := by decide +kernel
theorem d_Mo_joins_93 : decode prog_12_method_55_code 93 = .ok (.aload_n 0, 1) := by decide +kernel
theorem d_Mo_joins_94 : decode prog_12_method_55_code 94 = .ok (.iload 4, 2) := by decide +kernel
theorem d_Mo_joins_96 : decode prog_12_method_55_code 96 = .ok (.iconst 4, 1) := by decide +kernel
theorem d_Mo_joins_97 : decode prog_12_method_55_code 97 = .ok (.invokevirtual 90, 3) := by decide +kernel
theorem d_Mo_joins_100 : decode prog_12_method_55_code 100 = .ok (.ifCond .ne 14, 3) := by decide +kernel
theorem d_Mo_joins_103 : decode prog_12_method_55_code 103 = .ok (.aload_n 0, 1) := by decide +kernel
theorem d_Mo_joins_104 : decode prog_12_method_55_code 104 = .ok (.iload 4, 2) := by decide +kernel
theorem d_Mo_joins_106 : decode prog_12_method_55_code 106 = .ok (.bipush 8, 2) := by decide +kernel
theorem d_Mo_joins_108 : decode prog_12_method_55_code 108 = .ok (.invokevirtual 90, 3) := by decide +kernel
theorem d_Mo_joins_111 : decode prog_12_method_55_code 111 = .ok (.ifCond .eq 7, 3) := by decide +kernel
theorem d_Mo_joins_114 : decode prog_12_method_55_code 114 = .ok (.iconst 1, 1) := by decide +kernel
theorem d_Mo_joins_115 : decode prog_12_method_55_code 115 = .ok (.goto 4, 3) := by decide +kernel
theorem d_Mo_joins_118 : decode prog_12_method_55_code 118 = .ok (.iconst 0, 1) := by decide +kernel
theorem d_Mo_joins_119 : decode prog_12_method_55_code 119 = .ok (.istore_n 3, 1) := by decide +kernel
theorem d_Mo_joins_120 : decode prog_12_method_55_code 120 = .ok (.aload_n 0, 1) := by decide +kernel
theorem d_Mo_joins_121 : decode prog_12_method_55_code 121 = .ok (.iload_n 1, 1) := by decide +kernel
theorem d_Mo_joins_122 : decode prog_12_method_55_code 122 = .ok (.iload_n 2, 1) := by decide +kernel
theorem d_Mo_joins_123 : decode prog_12_method_55_code 123 = .ok (.invokevirtual 228, 3) := by decide +kernel
theorem d_Mo_joins_126 : decode prog_12_method_55_code 126 = .ok (.ifCond .eq 37, 3) := by decide +kernel
theorem d_Mo_joins_129 : decode prog_12_method_55_code 129 = .ok (.aload_n 0, 1) := by decide +kernel
theorem d_Mo_joins_130 : decode prog_12_method_55_code 130 = .ok (.iload_n 1, 1) := by decide +kernel
theorem d_Mo_joins_131 : decode prog_12_method_55_code 131 = .ok (.iload 4, 2) := by decide +kernel
theorem d_Mo_joins_133 : decode prog_12_method_55_code 133 = .ok (.invokevirtual 228, 3) := by decide +kernel
theorem d_Mo_joins_136 : decode prog_12_method_55_code 136 = .ok (.ifCond .eq 27, 3) := by decide +kernel
theorem d_Mo_joins_139 : decode prog_12_method_55_code 139 = .ok (.iload_n 3, 1) := by decide +kernel
theorem d_Mo_joins_140 : decode prog_12_method_55_code 140 = .ok (.ifCond .ne 23, 3) := by decide +kernel
theorem d_Mo_joins_143 : decode prog_12_method_55_code 143 = .ok (.aload_n 0, 1) := by decide +kernel
theorem d_Mo_joins_144 : decode prog_12_method_55_code 144 = .ok (.getfield 13, 3) := by decide +kernel
theorem d_Mo_joins_147 : decode prog_12_method_55_code 147 = .ok (.iload_n 2, 1) := by decide +kernel
theorem d_Mo_joins_148 : decode prog_12_method_55_code 148 = .ok (.iaload, 1) := by decide +kernel
theorem d_Mo_joins_149 : decode prog_12_method_55_code 149 = .ok (.aload_n 0, 1) := by decide +kernel
theorem d_Mo_joins_150 : decode prog_12_method_55_code 150 = .ok (.getfield 13, 3) := by decide +kernel
theorem d_Mo_joins_153 : decode prog_12_method_55_code 153 = .ok (.iload 4, 2) := by decide +kernel
theorem d_Mo_joins_155 : decode prog_12_method_55_code 155 = .ok (.iaload, 1) := by decide +kernel
theorem d_Mo_joins_156 : decode prog_12_method_55_code 156 = .ok (.if_icmp .ne 7, 3) := by decide +kernel
theorem d_Mo_joins_159 : decode prog_12_method_55_code 159 = .ok (.iconst 1, 1) := by decide +kernel
theorem d_Mo_joins_160 : decode prog_12_method_55_code 160 = .ok (.goto 4, 3) := by decide +kernel
theorem d_Mo_joins_163 : decode prog_12_method_55_code 163 = .ok (.iconst 0, 1) := by decide +kernel
theorem d_Mo_joins_164 : decode prog_12_method_55_code 164 = .ok (.ireturn, 1) := by decide +kernel
