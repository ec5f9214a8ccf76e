theorem d_M_init_0 : decode b_M_init 0 = .ok (.aload_n 0, 1) := by decide +kernel
theorem d_M_init_1 : decode b_M_init 1 = .ok (.invokespecial 1, 3) := by decide +kernel
theorem d_M_init_4 : decode b_M_init 4 = .ok (.aload_n 0, 1) := by decide +kernel
theorem d_M_init_5 : decode b_M_init 5 = .ok (.sipush 144, 3) := by decide +kernel
theorem d_M_init_8 : decode b_M_init 8 = .ok (.newarray .int, 2) := by decide +kernel
theorem d_M_init_10 : decode b_M_init 10 = .ok (.putfield 7, 3) := by decide +kernel
theorem d_M_init_13 : decode b_M_init 13 = .ok (.aload_n 0, 1) := by decide +kernel
theorem d_M_init_14 : decode b_M_init 14 = .ok (.bipush 120, 2) := by decide +kernel
theorem d_M_init_16 : decode b_M_init 16 = .ok (.newarray .int, 2) := by decide +kernel
theorem d_M_init_18 : decode b_M_init 18 = .ok (.putfield 13, 3) := by decide +kernel
theorem d_M_init_21 : decode b_M_init 21 = .ok (.aload_n 0, 1) := by decide +kernel
theorem d_M_init_22 : decode b_M_init 22 = .ok (.sipush 144, 3) := by decide +kernel
theorem d_M_init_25 : decode b_M_init 25 = .ok (.newarray .int, 2) := by decide +kernel
theorem d_M_init_27 : decode b_M_init 27 = .ok (.putfield 16, 3) := by decide +kernel
theorem d_M_init_30 : decode b_M_init 30 = .ok (.aload_n 0, 1) := by decide +kernel
theorem d_M_init_31 : decode b_M_init 31 = .ok (.bipush 120, 2) := by decide +kernel
theorem d_M_init_33 : decode b_M_init 33 = .ok (.newarray .int, 2) := by decide +kernel
theorem d_M_init_35 : decode b_M_init 35 = .ok (.putfield 19, 3) := by decide +kernel
theorem d_M_init_38 : decode b_M_init 38 = .ok (.aload_n 0, 1) := by decide +kernel
theorem d_M_init_39 : decode b_M_init 39 = .ok (.sipush 200, 3) := by decide +kernel
theorem d_M_init_42 : decode b_M_init 42 = .ok (.newarray .long, 2) := by decide +kernel
theorem d_M_init_44 : decode b_M_init 44 = .ok (.putfield 22, 3) := by decide +kernel
theorem d_M_init_47 : decode b_M_init 47 = .ok (.aload_n 0, 1) := by decide +kernel
theorem d_M_init_48 : decode b_M_init 48 = .ok (.sipush 200, 3) := by decide +kernel
theorem d_M_init_51 : decode b_M_init 51 = .ok (.newarray .int, 2) := by decide +kernel
theorem d_M_init_53 : decode b_M_init 53 = .ok (.putfield 26, 3) := by decide +kernel
theorem d_M_init_56 : decode b_M_init 56 = .ok (.aload_n 0, 1) := by decide +kernel
theorem d_M_init_57 : decode b_M_init 57 = .ok (.sipush 200, 3) := by decide +kernel
theorem d_M_init_60 : decode b_M_init 60 = .ok (.newarray .int, 2) := by decide +kernel
theorem d_M_init_62 : decode b_M_init 62 = .ok (.putfield 29, 3) := by decide +kernel
theorem d_M_init_65 : decode b_M_init 65 = .ok (.aload_n 0, 1) := by decide +kernel
theorem d_M_init_66 : decode b_M_init 66 = .ok (.sipush 200, 3) := by decide +kernel
theorem d_M_init_69 : decode b_M_init 69 = .ok (.newarray .int, 2) := by decide +kernel
theorem d_M_init_71 : decode b_M_init 71 = .ok (.putfield 32, 3) := by decide +kernel
theorem d_M_init_74 : decode b_M_init 74 = .ok (.aload_n 0, 1) := by decide +kernel
theorem d_M_init_75 : decode b_M_init 75 = .ok (.sipush 200, 3) := by decide +kernel
theorem d_M_init_78 : decode b_M_init 78 = .ok (.newarray .int, 2) := by decide +kernel
theorem d_M_init_80 : decode b_M_init 80 = .ok (.putfield 35, 3) := by decide +kernel
theorem d_M_init_83 : decode b_M_init 83 = .ok (.aload_n 0, 1) := by decide +kernel
theorem d_M_init_84 : decode b_M_init 84 = .ok (.bipush 50, 2) := by decide +kernel
theorem d_M_init_86 : decode b_M_init 86 = .ok (.newarray .long, 2) := by decide +kernel
theorem d_M_init_88 : decode b_M_init 88 = .ok (.putfield 38, 3) := by decide +kernel
theorem d_M_init_91 : decode b_M_init 91 = .ok (.aload_n 0, 1) := by decide +kernel
theorem d_M_init_92 : decode b_M_init 92 = .ok (.bipush 50, 2) := by decide +kernel
theorem d_M_init_94 : decode b_M_init 94 = .ok (.newarray .long, 2) := by decide +kernel
theorem d_M_init_96 : decode b_M_init 96 = .ok (.putfield 41, 3) := by decide +kernel
theorem d_M_init_99 : decode b_M_init 99 = .ok (.aload_n 0, 1) := by decide +kernel
theorem d_M_init_100 : decode b_M_init 100 = .ok (.bipush 50, 2) := by decide +kernel
theorem d_M_init_102 : decode b_M_init 102 = .ok (.newarray .int, 2) := by decide +kernel
theorem d_M_init_104 : decode b_M_init 104 = .ok (.putfield 44, 3) := by decide +kernel
theorem d_M_init_107 : decode b_M_init 107 = .ok (.aload_n 0, 1) := by decide +kernel
theorem d_M_init_108 : decode b_M_init 108 = .ok (.sipush 300, 3) := by decide +kernel
theorem d_M_init_111 : decode b_M_init 111 = .ok (.newarray .int, 2) := by decide +kernel
theorem d_M_init_113 : decode b_M_init 113 = .ok (.putfield 47, 3) := by decide +kernel
theorem d_M_init_116 : decode b_M_init 116 = .ok (.aload_n 0, 1) := by decide +kernel
theorem d_M_init_117 : decode b_M_init 117 = .ok (.sipush 300, 3) := by decide +kernel
theorem d_M_init_120 : decode b_M_init 120 = .ok (.newarray .int, 2) := by decide +kernel
theorem d_M_init_122 : decode b_M_init 122 = .ok (.putfield 50, 3) := by decide +kernel
theorem d_M_init_125 : decode b_M_init 125 = .ok (.aload_n 0, 1) := by decide +kernel
theorem d_M_init_126 : decode b_M_init 126 = .ok (.sipush 300, 3) := by decide +kernel
theorem d_M_init_129 : decode b_M_init 129 = .ok (.newarray .int, 2) := by decide +kernel
theorem d_M_init_131 : decode b_M_init 131 = .ok (.putfield 53, 3) := by decide +kernel
theorem d_M_init_134 : decode b_M_init 134 = .ok (.aload_n 0, 1) := by decide +kernel
theorem d_M_init_135 : decode b_M_init 135 = .ok (.sipush 300, 3) := by decide +kernel
theorem d_M_init_138 : decode b_M_init 138 = .ok (.newarray .long, 2) := by decide +kernel
theorem d_M_init_140 : decode b_M_init 140 = .ok (.putfield 56, 3) := by decide +kernel
theorem d_M_init_143 : decode b_M_init 143 = .ok (.aload_n 0, 1) := by decide +kernel
theorem d_M_init_144 : decode b_M_init 144 = .ok (.sipush 200, 3) := by decide +kernel
theorem d_M_init_147 : decode b_M_init 147 = .ok (.newarray .int, 2) := by decide +kernel
theorem d_M_init_149 : decode b_M_init 149 = .ok (.putfield 59, 3) := by decide +kernel
theorem d_M_init_152 : decode b_M_init 152 = .ok (.aload_n 0, 1) := by decide +kernel
theorem d_M_init_153 : decode b_M_init 153 = .ok (.sipush 200, 3) := by decide +kernel
theorem d_M_init_156 : decode b_M_init 156 = .ok (.newarray .int, 2) := by decide +kernel
theorem d_M_init_158 : decode b_M_init 158 = .ok (.putfield 62, 3) := by decide +kernel
theorem d_M_init_161 : decode b_M_init 161 = .ok (.aload_n 0, 1) := by decide +kernel
theorem d_M_init_162 : decode b_M_init 162 = .ok (.bipush 21, 2) := by decide +kernel
theorem d_M_init_164 : decode b_M_init 164 = .ok (.newarray .long, 2) := by decide +kernel
theorem d_M_init_166 : decode b_M_init 166 = .ok (.putfield 65, 3) := by decide +kernel
theorem d_M_init_169 : decode b_M_init 169 = .ok (.aload_n 0, 1) := by decide +kernel
theorem d_M_init_170 : decode b_M_init 170 = .ok (.sipush 2400, 3) := by decide +kernel
theorem d_M_init_173 : decode b_M_init 173 = .ok (.newarray .int, 2) := by decide +kernel
theorem d_M_init_175 : decode b_M_init 175 = .ok (.putfield 68, 3) := by decide +kernel
theorem d_M_init_178 : decode b_M_init 178 = .ok (.aload_n 0, 1) := by decide +kernel
theorem d_M_init_179 : decode b_M_init 179 = .ok (.sipush 2400, 3) := by decide +kernel
theorem d_M_init_182 : decode b_M_init 182 = .ok (.newarray .int, 2) := by decide +kernel
theorem d_M_init_184 : decode b_M_init 184 = .ok (.putfield 71, 3) := by decide +kernel
theorem d_M_init_187 : decode b_M_init 187 = .ok (.aload_n 0, 1) := by decide +kernel
theorem d_M_init_188 : decode b_M_init 188 = .ok (.bipush 12, 2) := by decide +kernel
theorem d_M_init_190 : decode b_M_init 190 = .ok (.newarray .int, 2) := by decide +kernel
theorem d_M_init_192 : decode b_M_init 192 = .ok (.putfield 74, 3) := by decide +kernel
theorem d_M_init_195 : decode b_M_init 195 = .ok (.aload_n 0, 1) := by decide +kernel
theorem d_M_init_196 : decode b_M_init 196 = .ok (.bipush 12, 2) := by decide +kernel
theorem d_M_init_198 : decode b_M_init 198 = .ok (.newarray .int, 2) := by decide +kernel
theorem d_M_init_200 : decode b_M_init 200 = .ok (.putfield 77, 3) := by decide +kernel
theorem d_M_init_203 : decode b_M_init 203 = .ok (.aload_n 0, 1) := by decide +kernel
theorem d_M_init_204 : decode b_M_init 204 = .ok (.sipush 2400, 3) := by decide +kernel
theorem d_M_init_207 : decode b_M_init 207 = .ok (.newarray .int, 2) := by decide +kernel
theorem d_M_init_209 : decode b_M_init 209 = .ok (.putfield 80, 3) := by decide +kernel
theorem d_M_init_212 : decode b_M_init 212 = .ok (.aload_n 0, 1) := by decide +kernel
theorem d_M_init_213 : decode b_M_init 213 = .ok (.sipush 2400, 3) := by decide +kernel
theorem d_M_init_216 : decode b_M_init 216 = .ok (.newarray .int, 2) := by decide +kernel
theorem d_M_init_218 : decode b_M_init 218 = .ok (.putfield 83, 3) := by decide +kernel
theorem d_M_init_221 : decode b_M_init 221 = .ok (.aload_n 0, 1) := by decide +kernel
theorem d_M_init_222 : decode b_M_init 222 = .ok (.sipush 200, 3) := by decide +kernel
theorem d_M_init_225 : decode b_M_init 225 = .ok (.newarray .int, 2) := by decide +kernel
theorem d_M_init_227 : decode b_M_init 227 = .ok (.putfield 86, 3) := by decide +kernel
theorem d_M_init_230 : decode b_M_init 230 = .ok (.aload_n 0, 1) := by decide +kernel
theorem d_M_init_231 : decode b_M_init 231 = .ok (.iload_n 1, 1) := by decide +kernel
theorem d_M_init_232 : decode b_M_init 232 = .ok (.iconst 1, 1) := by decide +kernel
theorem d_M_init_233 : decode b_M_init 233 = .ok (.if_icmp .ge 7, 3) := by decide +kernel
theorem d_M_init_236 : decode b_M_init 236 = .ok (.iconst 1, 1) := by decide +kernel
theorem d_M_init_237 : decode b_M_init 237 = .ok (.goto 15, 3) := by decide +kernel
theorem d_M_init_240 : decode b_M_init 240 = .ok (.iload_n 1, 1) := by decide +kernel
theorem d_M_init_241 : decode b_M_init 241 = .ok (.bipush 12, 2) := by decide +kernel
theorem d_M_init_243 : decode b_M_init 243 = .ok (.if_icmp .le 8, 3) := by decide +kernel
theorem d_M_init_246 : decode b_M_init 246 = .ok (.bipush 12, 2) := by decide +kernel
theorem d_M_init_248 : decode b_M_init 248 = .ok (.goto 4, 3) := by decide +kernel
theorem d_M_init_251 : decode b_M_init 251 = .ok (.iload_n 1, 1) := by decide +kernel
theorem d_M_init_252 : decode b_M_init 252 = .ok (.putfield 89, 3) := by decide +kernel
theorem d_M_init_255 : decode b_M_init 255 = .ok (.return_, 1) := by decide +kernel
theorem d_M_move_0 : decode b_M_move 0 = .ok (.aload_n 0, 1) := by decide +kernel
theorem d_M_move_1 : decode b_M_move 1 = .ok (.iload_n 1, 1) := by decide +kernel
theorem d_M_move_2 : decode b_M_move 2 = .ok (.invokevirtual 96, 3) := by decide +kernel
theorem d_M_move_5 : decode b_M_move 5 = .ok (.ifCond .eq 22, 3) := by decide +kernel
theorem d_M_move_8 : decode b_M_move 8 = .ok (.aload_n 0, 1) := by decide +kernel
theorem d_M_move_9 : decode b_M_move 9 = .ok (.iload_n 2, 1) := by decide +kernel
theorem d_M_move_10 : decode b_M_move 10 = .ok (.invokevirtual 96, 3) := by decide +kernel
theorem d_M_move_13 : decode b_M_move 13 = .ok (.ifCond .eq 14, 3) := by decide +kernel
theorem d_M_move_16 : decode b_M_move 16 = .ok (.iload_n 3, 1) := by decide +kernel
theorem d_M_move_17 : decode b_M_move 17 = .ok (.ifCond .lt 10, 3) := by decide +kernel
theorem d_M_move_20 : decode b_M_move 20 = .ok (.iload_n 3, 1) := by decide +kernel
theorem d_M_move_21 : decode b_M_move 21 = .ok (.sipush 10000, 3) := by decide +kernel
theorem d_M_move_24 : decode b_M_move 24 = .ok (.if_icmp .le 5, 3) := by decide +kernel
theorem d_M_move_27 : decode b_M_move 27 = .ok (.iconst 0, 1) := by decide +kernel
theorem d_M_move_28 : decode b_M_move 28 = .ok (.ireturn, 1) := by decide +kernel
theorem d_M_move_29 : decode b_M_move 29 = .ok (.aload_n 0, 1) := by decide +kernel
theorem d_M_move_30 : decode b_M_move 30 = .ok (.getfield 7, 3) := by decide +kernel
theorem d_M_move_33 : decode b_M_move 33 = .ok (.bipush 12, 2) := by decide +kernel
theorem d_M_move_35 : decode b_M_move 35 = .ok (.iload_n 1, 1) := by decide +kernel
theorem d_M_move_36 : decode b_M_move 36 = .ok (.imul, 1) := by decide +kernel
theorem d_M_move_37 : decode b_M_move 37 = .ok (.iload_n 2, 1) := by decide +kernel
theorem d_M_move_38 : decode b_M_move 38 = .ok (.iadd, 1) := by decide +kernel
theorem d_M_move_39 : decode b_M_move 39 = .ok (.iload_n 3, 1) := by decide +kernel
theorem d_M_move_40 : decode b_M_move 40 = .ok (.iastore, 1) := by decide +kernel
theorem d_M_move_41 : decode b_M_move 41 = .ok (.iconst 1, 1) := by decide +kernel
theorem d_M_move_42 : decode b_M_move 42 = .ok (.ireturn, 1) := by decide +kernel
theorem d_M_isAct_0 : decode b_M_isAct 0 = .ok (.iload_n 1, 1) := by decide +kernel
theorem d_M_isAct_1 : decode b_M_isAct 1 = .ok (.ifCond .lt 15, 3) := by decide +kernel
theorem d_M_isAct_4 : decode b_M_isAct 4 = .ok (.iload_n 1, 1) := by decide +kernel
theorem d_M_isAct_5 : decode b_M_isAct 5 = .ok (.aload_n 0, 1) := by decide +kernel
theorem d_M_isAct_6 : decode b_M_isAct 6 = .ok (.getfield 89, 3) := by decide +kernel
theorem d_M_isAct_9 : decode b_M_isAct 9 = .ok (.if_icmp .ge 7, 3) := by decide +kernel
theorem d_M_isAct_12 : decode b_M_isAct 12 = .ok (.iconst 1, 1) := by decide +kernel
theorem d_M_isAct_13 : decode b_M_isAct 13 = .ok (.goto 4, 3) := by decide +kernel
theorem d_M_isAct_16 : decode b_M_isAct 16 = .ok (.iconst 0, 1) := by decide +kernel
theorem d_M_isAct_17 : decode b_M_isAct 17 = .ok (.ireturn, 1) := by decide +kernel
theorem d_M_speed_0 : decode b_M_speed 0 = .ok (.aload_n 0, 1) := by decide +kernel
theorem d_M_speed_1 : decode b_M_speed 1 = .ok (.iload_n 1, 1) := by decide +kernel
theorem d_M_speed_2 : decode b_M_speed 2 = .ok (.invokevirtual 96, 3) := by decide +kernel
theorem d_M_speed_5 : decode b_M_speed 5 = .ok (.ifCond .eq 24, 3) := by decide +kernel
theorem d_M_speed_8 : decode b_M_speed 8 = .ok (.iload_n 2, 1) := by decide +kernel
theorem d_M_speed_9 : decode b_M_speed 9 = .ok (.ifCond .lt 20, 3) := by decide +kernel
theorem d_M_speed_12 : decode b_M_speed 12 = .ok (.iload_n 2, 1) := by decide +kernel
theorem d_M_speed_13 : decode b_M_speed 13 = .ok (.bipush 9, 2) := by decide +kernel
theorem d_M_speed_15 : decode b_M_speed 15 = .ok (.if_icmp .gt 14, 3) := by decide +kernel
theorem d_M_speed_18 : decode b_M_speed 18 = .ok (.iload_n 3, 1) := by decide +kernel
theorem d_M_speed_19 : decode b_M_speed 19 = .ok (.ifCond .lt 10, 3) := by decide +kernel
theorem d_M_speed_22 : decode b_M_speed 22 = .ok (.iload_n 3, 1) := by decide +kernel
theorem d_M_speed_23 : decode b_M_speed 23 = .ok (.sipush 10000, 3) := by decide +kernel
theorem d_M_speed_26 : decode b_M_speed 26 = .ok (.if_icmp .le 5, 3) := by decide +kernel
theorem d_M_speed_29 : decode b_M_speed 29 = .ok (.iconst 0, 1) := by decide +kernel
theorem d_M_speed_30 : decode b_M_speed 30 = .ok (.ireturn, 1) := by decide +kernel
theorem d_M_speed_31 : decode b_M_speed 31 = .ok (.aload_n 0, 1) := by decide +kernel
theorem d_M_speed_32 : decode b_M_speed 32 = .ok (.getfield 13, 3) := by decide +kernel
theorem d_M_speed_35 : decode b_M_speed 35 = .ok (.bipush 10, 2) := by decide +kernel
theorem d_M_speed_37 : decode b_M_speed 37 = .ok (.iload_n 1, 1) := by decide +kernel
theorem d_M_speed_38 : decode b_M_speed 38 = .ok (.imul, 1) := by decide +kernel
theorem d_M_speed_39 : decode b_M_speed 39 = .ok (.iload_n 2, 1) := by decide +kernel
theorem d_M_speed_40 : decode b_M_speed 40 = .ok (.iadd, 1) := by decide +kernel
theorem d_M_speed_41 : decode b_M_speed 41 = .ok (.iload_n 3, 1) := by decide +kernel
theorem d_M_speed_42 : decode b_M_speed 42 = .ok (.iastore, 1) := by decide +kernel
theorem d_M_speed_43 : decode b_M_speed 43 = .ok (.iconst 1, 1) := by decide +kernel
theorem d_M_speed_44 : decode b_M_speed 44 = .ok (.ireturn, 1) := by decide +kernel
theorem d_M_row_0 : decode b_M_row 0 = .ok (.aload_n 0, 1) := by decide +kernel
theorem d_M_row_1 : decode b_M_row 1 = .ok (.getfield 93, 3) := by decide +kernel
theorem d_M_row_4 : decode b_M_row 4 = .ok (.sipush 200, 3) := by decide +kernel
theorem d_M_row_7 : decode b_M_row 7 = .ok (.if_icmp .eq 53, 3) := by decide +kernel
theorem d_M_row_10 : decode b_M_row 10 = .ok (.lload_n 1, 1) := by decide +kernel
theorem d_M_row_11 : decode b_M_row 11 = .ok (.lconst 0, 1) := by decide +kernel
theorem d_M_row_12 : decode b_M_row 12 = .ok (.lcmp, 1) := by decide +kernel
theorem d_M_row_13 : decode b_M_row 13 = .ok (.ifCond .lt 47, 3) := by decide +kernel
theorem d_M_row_16 : decode b_M_row 16 = .ok (.aload_n 0, 1) := by decide +kernel
theorem d_M_row_17 : decode b_M_row 17 = .ok (.getfield 93, 3) := by decide +kernel
theorem d_M_row_20 : decode b_M_row 20 = .ok (.ifCond .le 19, 3) := by decide +kernel
theorem d_M_row_23 : decode b_M_row 23 = .ok (.lload_n 1, 1) := by decide +kernel
theorem d_M_row_24 : decode b_M_row 24 = .ok (.aload_n 0, 1) := by decide +kernel
theorem d_M_row_25 : decode b_M_row 25 = .ok (.getfield 22, 3) := by decide +kernel
theorem d_M_row_28 : decode b_M_row 28 = .ok (.aload_n 0, 1) := by decide +kernel
theorem d_M_row_29 : decode b_M_row 29 = .ok (.getfield 93, 3) := by decide +kernel
theorem d_M_row_32 : decode b_M_row 32 = .ok (.iconst 1, 1) := by decide +kernel
theorem d_M_row_33 : decode b_M_row 33 = .ok (.isub, 1) := by decide +kernel
theorem d_M_row_34 : decode b_M_row 34 = .ok (.laload, 1) := by decide +kernel
theorem d_M_row_35 : decode b_M_row 35 = .ok (.lcmp, 1) := by decide +kernel
theorem d_M_row_36 : decode b_M_row 36 = .ok (.ifCond .le 24, 3) := by decide +kernel
theorem d_M_row_39 : decode b_M_row 39 = .ok (.iload_n 3, 1) := by decide +kernel
theorem d_M_row_40 : decode b_M_row 40 = .ok (.ifCond .lt 20, 3) := by decide +kernel
theorem d_M_row_43 : decode b_M_row 43 = .ok (.iload_n 3, 1) := by decide +kernel
theorem d_M_row_44 : decode b_M_row 44 = .ok (.bipush 9, 2) := by decide +kernel
theorem d_M_row_46 : decode b_M_row 46 = .ok (.if_icmp .gt 14, 3) := by decide +kernel
theorem d_M_row_49 : decode b_M_row 49 = .ok (.iload 4, 2) := by decide +kernel
theorem d_M_row_51 : decode b_M_row 51 = .ok (.ifCond .lt 9, 3) := by decide +kernel
theorem d_M_row_54 : decode b_M_row 54 = .ok (.iload 4, 2) := by decide +kernel
theorem d_M_row_56 : decode b_M_row 56 = .ok (.iconst 3, 1) := by decide +kernel
theorem d_M_row_57 : decode b_M_row 57 = .ok (.if_icmp .le 5, 3) := by decide +kernel
theorem d_M_row_60 : decode b_M_row 60 = .ok (.iconst 0, 1) := by decide +kernel
theorem d_M_row_61 : decode b_M_row 61 = .ok (.ireturn, 1) := by decide +kernel
theorem d_M_row_62 : decode b_M_row 62 = .ok (.aload_n 0, 1) := by decide +kernel
theorem d_M_row_63 : decode b_M_row 63 = .ok (.getfield 22, 3) := by decide +kernel
theorem d_M_row_66 : decode b_M_row 66 = .ok (.aload_n 0, 1) := by decide +kernel
theorem d_M_row_67 : decode b_M_row 67 = .ok (.getfield 93, 3) := by decide +kernel
theorem d_M_row_70 : decode b_M_row 70 = .ok (.lload_n 1, 1) := by decide +kernel
theorem d_M_row_71 : decode b_M_row 71 = .ok (.lastore, 1) := by decide +kernel
theorem d_M_row_72 : decode b_M_row 72 = .ok (.aload_n 0, 1) := by decide +kernel
theorem d_M_row_73 : decode b_M_row 73 = .ok (.getfield 26, 3) := by decide +kernel
theorem d_M_row_76 : decode b_M_row 76 = .ok (.aload_n 0, 1) := by decide +kernel
theorem d_M_row_77 : decode b_M_row 77 = .ok (.getfield 93, 3) := by decide +kernel
theorem d_M_row_80 : decode b_M_row 80 = .ok (.iload_n 3, 1) := by decide +kernel
theorem d_M_row_81 : decode b_M_row 81 = .ok (.iastore, 1) := by decide +kernel
theorem d_M_row_82 : decode b_M_row 82 = .ok (.aload_n 0, 1) := by decide +kernel
theorem d_M_row_83 : decode b_M_row 83 = .ok (.getfield 29, 3) := by decide +kernel
theorem d_M_row_86 : decode b_M_row 86 = .ok (.aload_n 0, 1) := by decide +kernel
theorem d_M_row_87 : decode b_M_row 87 = .ok (.getfield 93, 3) := by decide +kernel
theorem d_M_row_90 : decode b_M_row 90 = .ok (.iload 4, 2) := by decide +kernel
theorem d_M_row_92 : decode b_M_row 92 = .ok (.iastore, 1) := by decide +kernel
theorem d_M_row_93 : decode b_M_row 93 = .ok (.aload_n 0, 1) := by decide +kernel
theorem d_M_row_94 : decode b_M_row 94 = .ok (.getfield 32, 3) := by decide +kernel
theorem d_M_row_97 : decode b_M_row 97 = .ok (.aload_n 0, 1) := by decide +kernel
theorem d_M_row_98 : decode b_M_row 98 = .ok (.getfield 93, 3) := by decide +kernel
theorem d_M_row_101 : decode b_M_row 101 = .ok (.aload_n 0, 1) := by decide +kernel
theorem d_M_row_102 : decode b_M_row 102 = .ok (.getfield 100, 3) := by decide +kernel
theorem d_M_row_105 : decode b_M_row 105 = .ok (.iastore, 1) := by decide +kernel
theorem d_M_row_106 : decode b_M_row 106 = .ok (.aload_n 0, 1) := by decide +kernel
theorem d_M_row_107 : decode b_M_row 107 = .ok (.getfield 35, 3) := by decide +kernel
theorem d_M_row_110 : decode b_M_row 110 = .ok (.aload_n 0, 1) := by decide +kernel
theorem d_M_row_111 : decode b_M_row 111 = .ok (.getfield 93, 3) := by decide +kernel
theorem d_M_row_114 : decode b_M_row 114 = .ok (.iconst (-1), 1) := by decide +kernel
theorem d_M_row_115 : decode b_M_row 115 = .ok (.iastore, 1) := by decide +kernel
theorem d_M_row_116 : decode b_M_row 116 = .ok (.aload_n 0, 1) := by decide +kernel
theorem d_M_row_117 : decode b_M_row 117 = .ok (.dup, 1) := by decide +kernel
theorem d_M_row_118 : decode b_M_row 118 = .ok (.getfield 93, 3) := by decide +kernel
theorem d_M_row_121 : decode b_M_row 121 = .ok (.iconst 1, 1) := by decide +kernel
theorem d_M_row_122 : decode b_M_row 122 = .ok (.iadd, 1) := by decide +kernel
theorem d_M_row_123 : decode b_M_row 123 = .ok (.putfield 93, 3) := by decide +kernel
theorem d_M_row_126 : decode b_M_row 126 = .ok (.iconst 1, 1) := by decide +kernel
theorem d_M_row_127 : decode b_M_row 127 = .ok (.ireturn, 1) := by decide +kernel
theorem d_M_ship_0 : decode b_M_ship 0 = .ok (.iload_n 1, 1) := by decide +kernel
theorem d_M_ship_1 : decode b_M_ship 1 = .ok (.ifCond .lt 9, 3) := by decide +kernel
theorem d_M_ship_4 : decode b_M_ship 4 = .ok (.iload_n 1, 1) := by decide +kernel
theorem d_M_ship_5 : decode b_M_ship 5 = .ok (.bipush 9, 2) := by decide +kernel
theorem d_M_ship_7 : decode b_M_ship 7 = .ok (.if_icmp .le 5, 3) := by decide +kernel
theorem d_M_ship_10 : decode b_M_ship 10 = .ok (.iconst 0, 1) := by decide +kernel
theorem d_M_ship_11 : decode b_M_ship 11 = .ok (.ireturn, 1) := by decide +kernel
theorem d_M_ship_12 : decode b_M_ship 12 = .ok (.aload_n 0, 1) := by decide +kernel
theorem d_M_ship_13 : decode b_M_ship 13 = .ok (.iload_n 1, 1) := by decide +kernel
theorem d_M_ship_14 : decode b_M_ship 14 = .ok (.putfield 100, 3) := by decide +kernel
theorem d_M_ship_17 : decode b_M_ship 17 = .ok (.iconst 1, 1) := by decide +kernel
theorem d_M_ship_18 : decode b_M_ship 18 = .ok (.ireturn, 1) := by decide +kernel
theorem d_M_truth_0 : decode b_M_truth 0 = .ok (.aload_n 0, 1) := by decide +kernel
theorem d_M_truth_1 : decode b_M_truth 1 = .ok (.iload_n 1, 1) := by decide +kernel
theorem d_M_truth_2 : decode b_M_truth 2 = .ok (.invokevirtual 103, 3) := by decide +kernel
theorem d_M_truth_5 : decode b_M_truth 5 = .ok (.ifCond .eq 11, 3) := by decide +kernel
theorem d_M_truth_8 : decode b_M_truth 8 = .ok (.aload_n 0, 1) := by decide +kernel
theorem d_M_truth_9 : decode b_M_truth 9 = .ok (.iload_n 2, 1) := by decide +kernel
theorem d_M_truth_10 : decode b_M_truth 10 = .ok (.invokevirtual 96, 3) := by decide +kernel
theorem d_M_truth_13 : decode b_M_truth 13 = .ok (.ifCond .ne 5, 3) := by decide +kernel
theorem d_M_truth_16 : decode b_M_truth 16 = .ok (.iconst 0, 1) := by decide +kernel
theorem d_M_truth_17 : decode b_M_truth 17 = .ok (.ireturn, 1) := by decide +kernel
theorem d_M_truth_18 : decode b_M_truth 18 = .ok (.aload_n 0, 1) := by decide +kernel
theorem d_M_truth_19 : decode b_M_truth 19 = .ok (.getfield 35, 3) := by decide +kernel
theorem d_M_truth_22 : decode b_M_truth 22 = .ok (.iload_n 1, 1) := by decide +kernel
theorem d_M_truth_23 : decode b_M_truth 23 = .ok (.iload_n 2, 1) := by decide +kernel
theorem d_M_truth_24 : decode b_M_truth 24 = .ok (.iastore, 1) := by decide +kernel
theorem d_M_truth_25 : decode b_M_truth 25 = .ok (.iconst 1, 1) := by decide +kernel
theorem d_M_truth_26 : decode b_M_truth 26 = .ok (.ireturn, 1) := by decide +kernel
theorem d_M_isRow_0 : decode b_M_isRow 0 = .ok (.iload_n 1, 1) := by decide +kernel
theorem d_M_isRow_1 : decode b_M_isRow 1 = .ok (.ifCond .lt 15, 3) := by decide +kernel
theorem d_M_isRow_4 : decode b_M_isRow 4 = .ok (.iload_n 1, 1) := by decide +kernel
theorem d_M_isRow_5 : decode b_M_isRow 5 = .ok (.aload_n 0, 1) := by decide +kernel
theorem d_M_isRow_6 : decode b_M_isRow 6 = .ok (.getfield 93, 3) := by decide +kernel
theorem d_M_isRow_9 : decode b_M_isRow 9 = .ok (.if_icmp .ge 7, 3) := by decide +kernel
theorem d_M_isRow_12 : decode b_M_isRow 12 = .ok (.iconst 1, 1) := by decide +kernel
theorem d_M_isRow_13 : decode b_M_isRow 13 = .ok (.goto 4, 3) := by decide +kernel
theorem d_M_isRow_16 : decode b_M_isRow 16 = .ok (.iconst 0, 1) := by decide +kernel
theorem d_M_isRow_17 : decode b_M_isRow 17 = .ok (.ireturn, 1) := by decide +kernel
theorem d_M_margin_0 : decode b_M_margin 0 = .ok (.iload_n 1, 1) := by decide +kernel
theorem d_M_margin_1 : decode b_M_margin 1 = .ok (.ifCond .lt 9, 3) := by decide +kernel
theorem d_M_margin_4 : decode b_M_margin 4 = .ok (.iload_n 1, 1) := by decide +kernel
theorem d_M_margin_5 : decode b_M_margin 5 = .ok (.ldc 106, 2) := by decide +kernel
theorem d_M_margin_7 : decode b_M_margin 7 = .ok (.if_icmp .le 5, 3) := by decide +kernel
theorem d_M_margin_10 : decode b_M_margin 10 = .ok (.iconst 0, 1) := by decide +kernel
theorem d_M_margin_11 : decode b_M_margin 11 = .ok (.ireturn, 1) := by decide +kernel
theorem d_M_margin_12 : decode b_M_margin 12 = .ok (.aload_n 0, 1) := by decide +kernel
theorem d_M_margin_13 : decode b_M_margin 13 = .ok (.iload_n 1, 1) := by decide +kernel
theorem d_M_margin_14 : decode b_M_margin 14 = .ok (.putfield 107, 3) := by decide +kernel
theorem d_M_margin_17 : decode b_M_margin 17 = .ok (.iconst 1, 1) := by decide +kernel
theorem d_M_margin_18 : decode b_M_margin 18 = .ok (.ireturn, 1) := by decide +kernel
theorem d_M_page_0 : decode b_M_page 0 = .ok (.aload_n 0, 1) := by decide +kernel
theorem d_M_page_1 : decode b_M_page 1 = .ok (.iload 5, 2) := by decide +kernel
theorem d_M_page_3 : decode b_M_page 3 = .ok (.invokevirtual 96, 3) := by decide +kernel
theorem d_M_page_6 : decode b_M_page 6 = .ok (.ifCond .eq 24, 3) := by decide +kernel
theorem d_M_page_9 : decode b_M_page 9 = .ok (.lload_n 1, 1) := by decide +kernel
theorem d_M_page_10 : decode b_M_page 10 = .ok (.lconst 0, 1) := by decide +kernel
theorem d_M_page_11 : decode b_M_page 11 = .ok (.lcmp, 1) := by decide +kernel
theorem d_M_page_12 : decode b_M_page 12 = .ok (.ifCond .lt 18, 3) := by decide +kernel
theorem d_M_page_15 : decode b_M_page 15 = .ok (.lload_n 1, 1) := by decide +kernel
theorem d_M_page_16 : decode b_M_page 16 = .ok (.lload_n 3, 1) := by decide +kernel
theorem d_M_page_17 : decode b_M_page 17 = .ok (.lcmp, 1) := by decide +kernel
theorem d_M_page_18 : decode b_M_page 18 = .ok (.ifCond .ge 12, 3) := by decide +kernel
theorem d_M_page_21 : decode b_M_page 21 = .ok (.aload_n 0, 1) := by decide +kernel
theorem d_M_page_22 : decode b_M_page 22 = .ok (.getfield 110, 3) := by decide +kernel
theorem d_M_page_25 : decode b_M_page 25 = .ok (.bipush 50, 2) := by decide +kernel
theorem d_M_page_27 : decode b_M_page 27 = .ok (.if_icmp .ne 5, 3) := by decide +kernel
theorem d_M_page_30 : decode b_M_page 30 = .ok (.iconst 0, 1) := by decide +kernel
theorem d_M_page_31 : decode b_M_page 31 = .ok (.ireturn, 1) := by decide +kernel
theorem d_M_page_32 : decode b_M_page 32 = .ok (.aload_n 0, 1) := by decide +kernel
theorem d_M_page_33 : decode b_M_page 33 = .ok (.getfield 38, 3) := by decide +kernel
theorem d_M_page_36 : decode b_M_page 36 = .ok (.aload_n 0, 1) := by decide +kernel
theorem d_M_page_37 : decode b_M_page 37 = .ok (.getfield 110, 3) := by decide +kernel
theorem d_M_page_40 : decode b_M_page 40 = .ok (.lload_n 1, 1) := by decide +kernel
theorem d_M_page_41 : decode b_M_page 41 = .ok (.lastore, 1) := by decide +kernel
theorem d_M_page_42 : decode b_M_page 42 = .ok (.aload_n 0, 1) := by decide +kernel
theorem d_M_page_43 : decode b_M_page 43 = .ok (.getfield 41, 3) := by decide +kernel
theorem d_M_page_46 : decode b_M_page 46 = .ok (.aload_n 0, 1) := by decide +kernel
theorem d_M_page_47 : decode b_M_page 47 = .ok (.getfield 110, 3) := by decide +kernel
theorem d_M_page_50 : decode b_M_page 50 = .ok (.lload_n 3, 1) := by decide +kernel
theorem d_M_page_51 : decode b_M_page 51 = .ok (.lastore, 1) := by decide +kernel
theorem d_M_page_52 : decode b_M_page 52 = .ok (.aload_n 0, 1) := by decide +kernel
theorem d_M_page_53 : decode b_M_page 53 = .ok (.getfield 44, 3) := by decide +kernel
theorem d_M_page_56 : decode b_M_page 56 = .ok (.aload_n 0, 1) := by decide +kernel
theorem d_M_page_57 : decode b_M_page 57 = .ok (.getfield 110, 3) := by decide +kernel
theorem d_M_page_60 : decode b_M_page 60 = .ok (.iload 5, 2) := by decide +kernel
theorem d_M_page_62 : decode b_M_page 62 = .ok (.iastore, 1) := by decide +kernel
theorem d_M_page_63 : decode b_M_page 63 = .ok (.aload_n 0, 1) := by decide +kernel
theorem d_M_page_64 : decode b_M_page 64 = .ok (.dup, 1) := by decide +kernel
theorem d_M_page_65 : decode b_M_page 65 = .ok (.getfield 110, 3) := by decide +kernel
theorem d_M_page_68 : decode b_M_page 68 = .ok (.iconst 1, 1) := by decide +kernel
theorem d_M_page_69 : decode b_M_page 69 = .ok (.iadd, 1) := by decide +kernel
theorem d_M_page_70 : decode b_M_page 70 = .ok (.putfield 110, 3) := by decide +kernel
theorem d_M_page_73 : decode b_M_page 73 = .ok (.iconst 1, 1) := by decide +kernel
theorem d_M_page_74 : decode b_M_page 74 = .ok (.ireturn, 1) := by decide +kernel
theorem d_M_cell_0 : decode b_M_cell 0 = .ok (.aload_n 0, 1) := by decide +kernel
theorem d_M_cell_1 : decode b_M_cell 1 = .ok (.iload_n 1, 1) := by decide +kernel
theorem d_M_cell_2 : decode b_M_cell 2 = .ok (.invokevirtual 103, 3) := by decide +kernel
theorem d_M_cell_5 : decode b_M_cell 5 = .ok (.ifCond .eq 49, 3) := by decide +kernel
theorem d_M_cell_8 : decode b_M_cell 8 = .ok (.iload_n 2, 1) := by decide +kernel
theorem d_M_cell_9 : decode b_M_cell 9 = .ok (.ifCond .lt 45, 3) := by decide +kernel
theorem d_M_cell_12 : decode b_M_cell 12 = .ok (.iload_n 2, 1) := by decide +kernel
theorem d_M_cell_13 : decode b_M_cell 13 = .ok (.bipush 19, 2) := by decide +kernel
theorem d_M_cell_15 : decode b_M_cell 15 = .ok (.if_icmp .gt 39, 3) := by decide +kernel
theorem d_M_cell_18 : decode b_M_cell 18 = .ok (.iload_n 3, 1) := by decide +kernel
theorem d_M_cell_19 : decode b_M_cell 19 = .ok (.ifCond .lt 35, 3) := by decide +kernel
theorem d_M_cell_22 : decode b_M_cell 22 = .ok (.iload_n 3, 1) := by decide +kernel
theorem d_M_cell_23 : decode b_M_cell 23 = .ok (.bipush 19, 2) := by decide +kernel
theorem d_M_cell_25 : decode b_M_cell 25 = .ok (.if_icmp .gt 29, 3) := by decide +kernel
theorem d_M_cell_28 : decode b_M_cell 28 = .ok (.lload 4, 2) := by decide +kernel
theorem d_M_cell_30 : decode b_M_cell 30 = .ok (.lconst 1, 1) := by decide +kernel
theorem d_M_cell_31 : decode b_M_cell 31 = .ok (.lcmp, 1) := by decide +kernel
theorem d_M_cell_32 : decode b_M_cell 32 = .ok (.ifCond .lt 22, 3) := by decide +kernel
theorem d_M_cell_35 : decode b_M_cell 35 = .ok (.lload 4, 2) := by decide +kernel
theorem d_M_cell_37 : decode b_M_cell 37 = .ok (.ldc2_w 113, 3) := by decide +kernel
theorem d_M_cell_40 : decode b_M_cell 40 = .ok (.lcmp, 1) := by decide +kernel
theorem d_M_cell_41 : decode b_M_cell 41 = .ok (.ifCond .gt 13, 3) := by decide +kernel
theorem d_M_cell_44 : decode b_M_cell 44 = .ok (.aload_n 0, 1) := by decide +kernel
theorem d_M_cell_45 : decode b_M_cell 45 = .ok (.getfield 115, 3) := by decide +kernel
theorem d_M_cell_48 : decode b_M_cell 48 = .ok (.sipush 300, 3) := by decide +kernel
theorem d_M_cell_51 : decode b_M_cell 51 = .ok (.if_icmp .ne 5, 3) := by decide +kernel
theorem d_M_cell_54 : decode b_M_cell 54 = .ok (.iconst 0, 1) := by decide +kernel
theorem d_M_cell_55 : decode b_M_cell 55 = .ok (.ireturn, 1) := by decide +kernel
theorem d_M_cell_56 : decode b_M_cell 56 = .ok (.aload_n 0, 1) := by decide +kernel
theorem d_M_cell_57 : decode b_M_cell 57 = .ok (.getfield 47, 3) := by decide +kernel
theorem d_M_cell_60 : decode b_M_cell 60 = .ok (.aload_n 0, 1) := by decide +kernel
theorem d_M_cell_61 : decode b_M_cell 61 = .ok (.getfield 115, 3) := by decide +kernel
theorem d_M_cell_64 : decode b_M_cell 64 = .ok (.iload_n 1, 1) := by decide +kernel
theorem d_M_cell_65 : decode b_M_cell 65 = .ok (.iastore, 1) := by decide +kernel
theorem d_M_cell_66 : decode b_M_cell 66 = .ok (.aload_n 0, 1) := by decide +kernel
theorem d_M_cell_67 : decode b_M_cell 67 = .ok (.getfield 50, 3) := by decide +kernel
theorem d_M_cell_70 : decode b_M_cell 70 = .ok (.aload_n 0, 1) := by decide +kernel
theorem d_M_cell_71 : decode b_M_cell 71 = .ok (.getfield 115, 3) := by decide +kernel
theorem d_M_cell_74 : decode b_M_cell 74 = .ok (.iload_n 2, 1) := by decide +kernel
theorem d_M_cell_75 : decode b_M_cell 75 = .ok (.iastore, 1) := by decide +kernel
theorem d_M_cell_76 : decode b_M_cell 76 = .ok (.aload_n 0, 1) := by decide +kernel
theorem d_M_cell_77 : decode b_M_cell 77 = .ok (.getfield 53, 3) := by decide +kernel
theorem d_M_cell_80 : decode b_M_cell 80 = .ok (.aload_n 0, 1) := by decide +kernel
theorem d_M_cell_81 : decode b_M_cell 81 = .ok (.getfield 115, 3) := by decide +kernel
theorem d_M_cell_84 : decode b_M_cell 84 = .ok (.iload_n 3, 1) := by decide +kernel
theorem d_M_cell_85 : decode b_M_cell 85 = .ok (.iastore, 1) := by decide +kernel
theorem d_M_cell_86 : decode b_M_cell 86 = .ok (.aload_n 0, 1) := by decide +kernel
theorem d_M_cell_87 : decode b_M_cell 87 = .ok (.getfield 56, 3) := by decide +kernel
theorem d_M_cell_90 : decode b_M_cell 90 = .ok (.aload_n 0, 1) := by decide +kernel
theorem d_M_cell_91 : decode b_M_cell 91 = .ok (.getfield 115, 3) := by decide +kernel
theorem d_M_cell_94 : decode b_M_cell 94 = .ok (.lload 4, 2) := by decide +kernel
theorem d_M_cell_96 : decode b_M_cell 96 = .ok (.lastore, 1) := by decide +kernel
theorem d_M_cell_97 : decode b_M_cell 97 = .ok (.aload_n 0, 1) := by decide +kernel
theorem d_M_cell_98 : decode b_M_cell 98 = .ok (.dup, 1) := by decide +kernel
theorem d_M_cell_99 : decode b_M_cell 99 = .ok (.getfield 115, 3) := by decide +kernel
theorem d_M_cell_102 : decode b_M_cell 102 = .ok (.iconst 1, 1) := by decide +kernel
theorem d_M_cell_103 : decode b_M_cell 103 = .ok (.iadd, 1) := by decide +kernel
theorem d_M_cell_104 : decode b_M_cell 104 = .ok (.putfield 115, 3) := by decide +kernel
theorem d_M_cell_107 : decode b_M_cell 107 = .ok (.iconst 1, 1) := by decide +kernel
theorem d_M_cell_108 : decode b_M_cell 108 = .ok (.ireturn, 1) := by decide +kernel
theorem d_M_night_0 : decode b_M_night 0 = .ok (.aload_n 0, 1) := by decide +kernel
theorem d_M_night_1 : decode b_M_night 1 = .ok (.iload_n 1, 1) := by decide +kernel
theorem d_M_night_2 : decode b_M_night 2 = .ok (.invokevirtual 103, 3) := by decide +kernel
theorem d_M_night_5 : decode b_M_night 5 = .ok (.ifCond .ne 5, 3) := by decide +kernel
theorem d_M_night_8 : decode b_M_night 8 = .ok (.iconst (-1), 1) := by decide +kernel
theorem d_M_night_9 : decode b_M_night 9 = .ok (.ireturn, 1) := by decide +kernel
theorem d_M_night_10 : decode b_M_night 10 = .ok (.aload_n 0, 1) := by decide +kernel
theorem d_M_night_11 : decode b_M_night 11 = .ok (.getfield 22, 3) := by decide +kernel
theorem d_M_night_14 : decode b_M_night 14 = .ok (.iload_n 1, 1) := by decide +kernel
theorem d_M_night_15 : decode b_M_night 15 = .ok (.laload, 1) := by decide +kernel
theorem d_M_night_16 : decode b_M_night 16 = .ok (.ldc2_w 118, 3) := by decide +kernel
theorem d_M_night_19 : decode b_M_night 19 = .ok (.lrem, 1) := by decide +kernel
theorem d_M_night_20 : decode b_M_night 20 = .ok (.lstore_n 2, 1) := by decide +kernel
theorem d_M_night_21 : decode b_M_night 21 = .ok (.lload_n 2, 1) := by decide +kernel
theorem d_M_night_22 : decode b_M_night 22 = .ok (.ldc2_w 120, 3) := by decide +kernel
theorem d_M_night_25 : decode b_M_night 25 = .ok (.lcmp, 1) := by decide +kernel
theorem d_M_night_26 : decode b_M_night 26 = .ok (.ifCond .lt 11, 3) := by decide +kernel
theorem d_M_night_29 : decode b_M_night 29 = .ok (.lload_n 2, 1) := by decide +kernel
theorem d_M_night_30 : decode b_M_night 30 = .ok (.ldc2_w 122, 3) := by decide +kernel
theorem d_M_night_33 : decode b_M_night 33 = .ok (.lcmp, 1) := by decide +kernel
theorem d_M_night_34 : decode b_M_night 34 = .ok (.ifCond .lt 7, 3) := by decide +kernel
theorem d_M_night_37 : decode b_M_night 37 = .ok (.iconst 1, 1) := by decide +kernel
theorem d_M_night_38 : decode b_M_night 38 = .ok (.goto 4, 3) := by decide +kernel
theorem d_M_night_41 : decode b_M_night 41 = .ok (.iconst 0, 1) := by decide +kernel
theorem d_M_night_42 : decode b_M_night 42 = .ok (.ireturn, 1) := by decide +kernel
theorem d_M_run_0 : decode b_M_run 0 = .ok (.aload_n 0, 1) := by decide +kernel
theorem d_M_run_1 : decode b_M_run 1 = .ok (.getfield 93, 3) := by decide +kernel
theorem d_M_run_4 : decode b_M_run 4 = .ok (.ifCond .ne 5, 3) := by decide +kernel
theorem d_M_run_7 : decode b_M_run 7 = .ok (.iconst (-1), 1) := by decide +kernel
theorem d_M_run_8 : decode b_M_run 8 = .ok (.ireturn, 1) := by decide +kernel
theorem d_M_run_9 : decode b_M_run 9 = .ok (.aload_n 0, 1) := by decide +kernel
theorem d_M_run_10 : decode b_M_run 10 = .ok (.invokevirtual 145, 3) := by decide +kernel
theorem d_M_run_13 : decode b_M_run 13 = .ok (.aload_n 0, 1) := by decide +kernel
theorem d_M_run_14 : decode b_M_run 14 = .ok (.getfield 136, 3) := by decide +kernel
theorem d_M_run_17 : decode b_M_run 17 = .ok (.ireturn, 1) := by decide +kernel
theorem d_M_keep_0 : decode b_M_keep 0 = .ok (.aload_n 0, 1) := by decide +kernel
theorem d_M_keep_1 : decode b_M_keep 1 = .ok (.aload_n 0, 1) := by decide +kernel
theorem d_M_keep_2 : decode b_M_keep 2 = .ok (.iconst (-1), 1) := by decide +kernel
theorem d_M_keep_3 : decode b_M_keep 3 = .ok (.invokevirtual 132, 3) := by decide +kernel
theorem d_M_keep_6 : decode b_M_keep 6 = .ok (.putfield 136, 3) := by decide +kernel
theorem d_M_keep_9 : decode b_M_keep 9 = .ok (.aload_n 0, 1) := by decide +kernel
theorem d_M_keep_10 : decode b_M_keep 10 = .ok (.aload_n 0, 1) := by decide +kernel
theorem d_M_keep_11 : decode b_M_keep 11 = .ok (.getfield 93, 3) := by decide +kernel
theorem d_M_keep_14 : decode b_M_keep 14 = .ok (.putfield 139, 3) := by decide +kernel
theorem d_M_keep_17 : decode b_M_keep 17 = .ok (.aload_n 0, 1) := by decide +kernel
theorem d_M_keep_18 : decode b_M_keep 18 = .ok (.invokevirtual 142, 3) := by decide +kernel
theorem d_M_keep_21 : decode b_M_keep 21 = .ok (.iconst 0, 1) := by decide +kernel
theorem d_M_keep_22 : decode b_M_keep 22 = .ok (.istore_n 1, 1) := by decide +kernel
theorem d_M_keep_23 : decode b_M_keep 23 = .ok (.iload_n 1, 1) := by decide +kernel
theorem d_M_keep_24 : decode b_M_keep 24 = .ok (.aload_n 0, 1) := by decide +kernel
theorem d_M_keep_25 : decode b_M_keep 25 = .ok (.getfield 93, 3) := by decide +kernel
theorem d_M_keep_28 : decode b_M_keep 28 = .ok (.if_icmp .ge 171, 3) := by decide +kernel
theorem d_M_keep_31 : decode b_M_keep 31 = .ok (.aload_n 0, 1) := by decide +kernel
theorem d_M_keep_32 : decode b_M_keep 32 = .ok (.getfield 59, 3) := by decide +kernel
theorem d_M_keep_35 : decode b_M_keep 35 = .ok (.iload_n 1, 1) := by decide +kernel
theorem d_M_keep_36 : decode b_M_keep 36 = .ok (.aload_n 0, 1) := by decide +kernel
theorem d_M_keep_37 : decode b_M_keep 37 = .ok (.getfield 86, 3) := by decide +kernel
theorem d_M_keep_40 : decode b_M_keep 40 = .ok (.iload_n 1, 1) := by decide +kernel
theorem d_M_keep_41 : decode b_M_keep 41 = .ok (.iaload, 1) := by decide +kernel
theorem d_M_keep_42 : decode b_M_keep 42 = .ok (.iastore, 1) := by decide +kernel
theorem d_M_keep_43 : decode b_M_keep 43 = .ok (.ldc 128, 2) := by decide +kernel
theorem d_M_keep_45 : decode b_M_keep 45 = .ok (.istore_n 2, 1) := by decide +kernel
theorem d_M_keep_46 : decode b_M_keep 46 = .ok (.iconst 0, 1) := by decide +kernel
theorem d_M_keep_47 : decode b_M_keep 47 = .ok (.istore_n 3, 1) := by decide +kernel
theorem d_M_keep_48 : decode b_M_keep 48 = .ok (.iload_n 3, 1) := by decide +kernel
theorem d_M_keep_49 : decode b_M_keep 49 = .ok (.aload_n 0, 1) := by decide +kernel
theorem d_M_keep_50 : decode b_M_keep 50 = .ok (.getfield 89, 3) := by decide +kernel
theorem d_M_keep_53 : decode b_M_keep 53 = .ok (.if_icmp .ge 123, 3) := by decide +kernel
theorem d_M_keep_56 : decode b_M_keep 56 = .ok (.iload_n 3, 1) := by decide +kernel
theorem d_M_keep_57 : decode b_M_keep 57 = .ok (.aload_n 0, 1) := by decide +kernel
theorem d_M_keep_58 : decode b_M_keep 58 = .ok (.getfield 59, 3) := by decide +kernel
theorem d_M_keep_61 : decode b_M_keep 61 = .ok (.iload_n 1, 1) := by decide +kernel
theorem d_M_keep_62 : decode b_M_keep 62 = .ok (.iaload, 1) := by decide +kernel
theorem d_M_keep_63 : decode b_M_keep 63 = .ok (.if_icmp .eq 39, 3) := by decide +kernel
theorem d_M_keep_66 : decode b_M_keep 66 = .ok (.aload_n 0, 1) := by decide +kernel
theorem d_M_keep_67 : decode b_M_keep 67 = .ok (.getfield 80, 3) := by decide +kernel
theorem d_M_keep_70 : decode b_M_keep 70 = .ok (.bipush 12, 2) := by decide +kernel
theorem d_M_keep_72 : decode b_M_keep 72 = .ok (.iload_n 1, 1) := by decide +kernel
theorem d_M_keep_73 : decode b_M_keep 73 = .ok (.imul, 1) := by decide +kernel
theorem d_M_keep_74 : decode b_M_keep 74 = .ok (.iload_n 3, 1) := by decide +kernel
theorem d_M_keep_75 : decode b_M_keep 75 = .ok (.iadd, 1) := by decide +kernel
theorem d_M_keep_76 : decode b_M_keep 76 = .ok (.iaload, 1) := by decide +kernel
theorem d_M_keep_77 : decode b_M_keep 77 = .ok (.ldc 128, 2) := by decide +kernel
theorem d_M_keep_79 : decode b_M_keep 79 = .ok (.if_icmp .ge 23, 3) := by decide +kernel
theorem d_M_keep_82 : decode b_M_keep 82 = .ok (.aload_n 0, 1) := by decide +kernel
theorem d_M_keep_83 : decode b_M_keep 83 = .ok (.getfield 83, 3) := by decide +kernel
theorem d_M_keep_86 : decode b_M_keep 86 = .ok (.bipush 12, 2) := by decide +kernel
theorem d_M_keep_88 : decode b_M_keep 88 = .ok (.iload_n 1, 1) := by decide +kernel
theorem d_M_keep_89 : decode b_M_keep 89 = .ok (.imul, 1) := by decide +kernel
theorem d_M_keep_90 : decode b_M_keep 90 = .ok (.iload_n 3, 1) := by decide +kernel
theorem d_M_keep_91 : decode b_M_keep 91 = .ok (.iadd, 1) := by decide +kernel
theorem d_M_keep_92 : decode b_M_keep 92 = .ok (.iaload, 1) := by decide +kernel
theorem d_M_keep_93 : decode b_M_keep 93 = .ok (.ldc 128, 2) := by decide +kernel
theorem d_M_keep_95 : decode b_M_keep 95 = .ok (.if_icmp .ge 7, 3) := by decide +kernel
theorem d_M_keep_98 : decode b_M_keep 98 = .ok (.iconst 1, 1) := by decide +kernel
theorem d_M_keep_99 : decode b_M_keep 99 = .ok (.goto 4, 3) := by decide +kernel
theorem d_M_keep_102 : decode b_M_keep 102 = .ok (.iconst 0, 1) := by decide +kernel
theorem d_M_keep_103 : decode b_M_keep 103 = .ok (.istore 4, 2) := by decide +kernel
theorem d_M_keep_105 : decode b_M_keep 105 = .ok (.iload 4, 2) := by decide +kernel
theorem d_M_keep_107 : decode b_M_keep 107 = .ok (.ifCond .eq 46, 3) := by decide +kernel
theorem d_M_keep_110 : decode b_M_keep 110 = .ok (.aload_n 0, 1) := by decide +kernel
theorem d_M_keep_111 : decode b_M_keep 111 = .ok (.getfield 80, 3) := by decide +kernel
theorem d_M_keep_114 : decode b_M_keep 114 = .ok (.bipush 12, 2) := by decide +kernel
theorem d_M_keep_116 : decode b_M_keep 116 = .ok (.iload_n 1, 1) := by decide +kernel
theorem d_M_keep_117 : decode b_M_keep 117 = .ok (.imul, 1) := by decide +kernel
theorem d_M_keep_118 : decode b_M_keep 118 = .ok (.iload_n 3, 1) := by decide +kernel
theorem d_M_keep_119 : decode b_M_keep 119 = .ok (.iadd, 1) := by decide +kernel
theorem d_M_keep_120 : decode b_M_keep 120 = .ok (.iaload, 1) := by decide +kernel
theorem d_M_keep_121 : decode b_M_keep 121 = .ok (.aload_n 0, 1) := by decide +kernel
theorem d_M_keep_122 : decode b_M_keep 122 = .ok (.getfield 83, 3) := by decide +kernel
theorem d_M_keep_125 : decode b_M_keep 125 = .ok (.bipush 12, 2) := by decide +kernel
theorem d_M_keep_127 : decode b_M_keep 127 = .ok (.iload_n 1, 1) := by decide +kernel
theorem d_M_keep_128 : decode b_M_keep 128 = .ok (.imul, 1) := by decide +kernel
theorem d_M_keep_129 : decode b_M_keep 129 = .ok (.iload_n 3, 1) := by decide +kernel
theorem d_M_keep_130 : decode b_M_keep 130 = .ok (.iadd, 1) := by decide +kernel
theorem d_M_keep_131 : decode b_M_keep 131 = .ok (.iaload, 1) := by decide +kernel
theorem d_M_keep_132 : decode b_M_keep 132 = .ok (.iadd, 1) := by decide +kernel
theorem d_M_keep_133 : decode b_M_keep 133 = .ok (.aload_n 0, 1) := by decide +kernel
theorem d_M_keep_134 : decode b_M_keep 134 = .ok (.getfield 13, 3) := by decide +kernel
theorem d_M_keep_137 : decode b_M_keep 137 = .ok (.bipush 10, 2) := by decide +kernel
theorem d_M_keep_139 : decode b_M_keep 139 = .ok (.iload_n 3, 1) := by decide +kernel
theorem d_M_keep_140 : decode b_M_keep 140 = .ok (.imul, 1) := by decide +kernel
theorem d_M_keep_141 : decode b_M_keep 141 = .ok (.aload_n 0, 1) := by decide +kernel
theorem d_M_keep_142 : decode b_M_keep 142 = .ok (.getfield 26, 3) := by decide +kernel
theorem d_M_keep_145 : decode b_M_keep 145 = .ok (.iload_n 1, 1) := by decide +kernel
theorem d_M_keep_146 : decode b_M_keep 146 = .ok (.iaload, 1) := by decide +kernel
theorem d_M_keep_147 : decode b_M_keep 147 = .ok (.iadd, 1) := by decide +kernel
theorem d_M_keep_148 : decode b_M_keep 148 = .ok (.iaload, 1) := by decide +kernel
theorem d_M_keep_149 : decode b_M_keep 149 = .ok (.isub, 1) := by decide +kernel
theorem d_M_keep_150 : decode b_M_keep 150 = .ok (.goto 5, 3) := by decide +kernel
theorem d_M_keep_153 : decode b_M_keep 153 = .ok (.ldc 128, 2) := by decide +kernel
theorem d_M_keep_155 : decode b_M_keep 155 = .ok (.istore 5, 2) := by decide +kernel
theorem d_M_keep_157 : decode b_M_keep 157 = .ok (.iload 5, 2) := by decide +kernel
theorem d_M_keep_159 : decode b_M_keep 159 = .ok (.iload_n 2, 1) := by decide +kernel
theorem d_M_keep_160 : decode b_M_keep 160 = .ok (.if_icmp .ge 8, 3) := by decide +kernel
theorem d_M_keep_163 : decode b_M_keep 163 = .ok (.iload 5, 2) := by decide +kernel
theorem d_M_keep_165 : decode b_M_keep 165 = .ok (.goto 4, 3) := by decide +kernel
theorem d_M_keep_168 : decode b_M_keep 168 = .ok (.iload_n 2, 1) := by decide +kernel
theorem d_M_keep_169 : decode b_M_keep 169 = .ok (.istore_n 2, 1) := by decide +kernel
theorem d_M_keep_170 : decode b_M_keep 170 = .ok (.iinc 3 1, 3) := by decide +kernel
theorem d_M_keep_173 : decode b_M_keep 173 = .ok (.goto (-125), 3) := by decide +kernel
theorem d_M_keep_176 : decode b_M_keep 176 = .ok (.aload_n 0, 1) := by decide +kernel
theorem d_M_keep_177 : decode b_M_keep 177 = .ok (.getfield 62, 3) := by decide +kernel
theorem d_M_keep_180 : decode b_M_keep 180 = .ok (.iload_n 1, 1) := by decide +kernel
theorem d_M_keep_181 : decode b_M_keep 181 = .ok (.iload_n 2, 1) := by decide +kernel
theorem d_M_keep_182 : decode b_M_keep 182 = .ok (.ldc 128, 2) := by decide +kernel
theorem d_M_keep_184 : decode b_M_keep 184 = .ok (.if_icmp .ge 7, 3) := by decide +kernel
theorem d_M_keep_187 : decode b_M_keep 187 = .ok (.iload_n 2, 1) := by decide +kernel
theorem d_M_keep_188 : decode b_M_keep 188 = .ok (.goto 4, 3) := by decide +kernel
theorem d_M_keep_191 : decode b_M_keep 191 = .ok (.iconst (-1), 1) := by decide +kernel
theorem d_M_keep_192 : decode b_M_keep 192 = .ok (.iastore, 1) := by decide +kernel
theorem d_M_keep_193 : decode b_M_keep 193 = .ok (.iinc 1 1, 3) := by decide +kernel
theorem d_M_keep_196 : decode b_M_keep 196 = .ok (.goto (-173), 3) := by decide +kernel
theorem d_M_keep_199 : decode b_M_keep 199 = .ok (.return_, 1) := by decide +kernel
theorem d_M_search_0 : decode b_M_search 0 = .ok (.iconst 0, 1) := by decide +kernel
theorem d_M_search_1 : decode b_M_search 1 = .ok (.istore_n 2, 1) := by decide +kernel
theorem d_M_search_2 : decode b_M_search 2 = .ok (.iload_n 2, 1) := by decide +kernel
theorem d_M_search_3 : decode b_M_search 3 = .ok (.aload_n 0, 1) := by decide +kernel
theorem d_M_search_4 : decode b_M_search 4 = .ok (.getfield 89, 3) := by decide +kernel
theorem d_M_search_7 : decode b_M_search 7 = .ok (.if_icmp .ge 57, 3) := by decide +kernel
theorem d_M_search_10 : decode b_M_search 10 = .ok (.aload_n 0, 1) := by decide +kernel
theorem d_M_search_11 : decode b_M_search 11 = .ok (.getfield 74, 3) := by decide +kernel
theorem d_M_search_14 : decode b_M_search 14 = .ok (.iload_n 2, 1) := by decide +kernel
theorem d_M_search_15 : decode b_M_search 15 = .ok (.aload_n 0, 1) := by decide +kernel
theorem d_M_search_16 : decode b_M_search 16 = .ok (.iconst 0, 1) := by decide +kernel
theorem d_M_search_17 : decode b_M_search 17 = .ok (.iload_n 2, 1) := by decide +kernel
theorem d_M_search_18 : decode b_M_search 18 = .ok (.iload_n 1, 1) := by decide +kernel
theorem d_M_search_19 : decode b_M_search 19 = .ok (.invokevirtual 124, 3) := by decide +kernel
theorem d_M_search_22 : decode b_M_search 22 = .ok (.ifCond .eq 22, 3) := by decide +kernel
theorem d_M_search_25 : decode b_M_search 25 = .ok (.aload_n 0, 1) := by decide +kernel
theorem d_M_search_26 : decode b_M_search 26 = .ok (.getfield 13, 3) := by decide +kernel
theorem d_M_search_29 : decode b_M_search 29 = .ok (.bipush 10, 2) := by decide +kernel
theorem d_M_search_31 : decode b_M_search 31 = .ok (.iload_n 2, 1) := by decide +kernel
theorem d_M_search_32 : decode b_M_search 32 = .ok (.imul, 1) := by decide +kernel
theorem d_M_search_33 : decode b_M_search 33 = .ok (.aload_n 0, 1) := by decide +kernel
theorem d_M_search_34 : decode b_M_search 34 = .ok (.getfield 26, 3) := by decide +kernel
theorem d_M_search_37 : decode b_M_search 37 = .ok (.iconst 0, 1) := by decide +kernel
theorem d_M_search_38 : decode b_M_search 38 = .ok (.iaload, 1) := by decide +kernel
theorem d_M_search_39 : decode b_M_search 39 = .ok (.iadd, 1) := by decide +kernel
theorem d_M_search_40 : decode b_M_search 40 = .ok (.iaload, 1) := by decide +kernel
theorem d_M_search_41 : decode b_M_search 41 = .ok (.goto 5, 3) := by decide +kernel
theorem d_M_search_44 : decode b_M_search 44 = .ok (.ldc 128, 2) := by decide +kernel
theorem d_M_search_46 : decode b_M_search 46 = .ok (.iastore, 1) := by decide +kernel
theorem d_M_search_47 : decode b_M_search 47 = .ok (.aload_n 0, 1) := by decide +kernel
theorem d_M_search_48 : decode b_M_search 48 = .ok (.getfield 68, 3) := by decide +kernel
theorem d_M_search_51 : decode b_M_search 51 = .ok (.sipush 200, 3) := by decide +kernel
theorem d_M_search_54 : decode b_M_search 54 = .ok (.iload_n 2, 1) := by decide +kernel
theorem d_M_search_55 : decode b_M_search 55 = .ok (.imul, 1) := by decide +kernel
theorem d_M_search_56 : decode b_M_search 56 = .ok (.iload_n 2, 1) := by decide +kernel
theorem d_M_search_57 : decode b_M_search 57 = .ok (.iastore, 1) := by decide +kernel
theorem d_M_search_58 : decode b_M_search 58 = .ok (.iinc 2 1, 3) := by decide +kernel
theorem d_M_search_61 : decode b_M_search 61 = .ok (.goto (-59), 3) := by decide +kernel
theorem d_M_search_64 : decode b_M_search 64 = .ok (.iconst 1, 1) := by decide +kernel
theorem d_M_search_65 : decode b_M_search 65 = .ok (.istore_n 2, 1) := by decide +kernel
theorem d_M_search_66 : decode b_M_search 66 = .ok (.iload_n 2, 1) := by decide +kernel
theorem d_M_search_67 : decode b_M_search 67 = .ok (.aload_n 0, 1) := by decide +kernel
theorem d_M_search_68 : decode b_M_search 68 = .ok (.getfield 93, 3) := by decide +kernel
theorem d_M_search_71 : decode b_M_search 71 = .ok (.if_icmp .ge 306, 3) := by decide +kernel
theorem d_M_search_74 : decode b_M_search 74 = .ok (.iconst 0, 1) := by decide +kernel
theorem d_M_search_75 : decode b_M_search 75 = .ok (.istore_n 3, 1) := by decide +kernel
theorem d_M_search_76 : decode b_M_search 76 = .ok (.iload_n 3, 1) := by decide +kernel
theorem d_M_search_77 : decode b_M_search 77 = .ok (.aload_n 0, 1) := by decide +kernel
theorem d_M_search_78 : decode b_M_search 78 = .ok (.getfield 89, 3) := by decide +kernel
theorem d_M_search_81 : decode b_M_search 81 = .ok (.if_icmp .ge 221, 3) := by decide +kernel
theorem d_M_search_84 : decode b_M_search 84 = .ok (.iconst (-1), 1) := by decide +kernel
theorem d_M_search_85 : decode b_M_search 85 = .ok (.istore 4, 2) := by decide +kernel
theorem d_M_search_87 : decode b_M_search 87 = .ok (.ldc 128, 2) := by decide +kernel
theorem d_M_search_89 : decode b_M_search 89 = .ok (.istore 5, 2) := by decide +kernel
theorem d_M_search_91 : decode b_M_search 91 = .ok (.iconst 0, 1) := by decide +kernel
theorem d_M_search_92 : decode b_M_search 92 = .ok (.istore 6, 2) := by decide +kernel
theorem d_M_search_94 : decode b_M_search 94 = .ok (.iload 6, 2) := by decide +kernel
theorem d_M_search_96 : decode b_M_search 96 = .ok (.aload_n 0, 1) := by decide +kernel
theorem d_M_search_97 : decode b_M_search 97 = .ok (.getfield 89, 3) := by decide +kernel
theorem d_M_search_100 : decode b_M_search 100 = .ok (.if_icmp .ge 89, 3) := by decide +kernel
theorem d_M_search_103 : decode b_M_search 103 = .ok (.aload_n 0, 1) := by decide +kernel
theorem d_M_search_104 : decode b_M_search 104 = .ok (.getfield 74, 3) := by decide +kernel
theorem d_M_search_107 : decode b_M_search 107 = .ok (.iload 6, 2) := by decide +kernel
theorem d_M_search_109 : decode b_M_search 109 = .ok (.iaload, 1) := by decide +kernel
theorem d_M_search_110 : decode b_M_search 110 = .ok (.ldc 128, 2) := by decide +kernel
theorem d_M_search_112 : decode b_M_search 112 = .ok (.if_icmp .lt 8, 3) := by decide +kernel
theorem d_M_search_115 : decode b_M_search 115 = .ok (.ldc 128, 2) := by decide +kernel
theorem d_M_search_117 : decode b_M_search 117 = .ok (.goto 23, 3) := by decide +kernel
theorem d_M_search_120 : decode b_M_search 120 = .ok (.aload_n 0, 1) := by decide +kernel
theorem d_M_search_121 : decode b_M_search 121 = .ok (.getfield 74, 3) := by decide +kernel
theorem d_M_search_124 : decode b_M_search 124 = .ok (.iload 6, 2) := by decide +kernel
theorem d_M_search_126 : decode b_M_search 126 = .ok (.iaload, 1) := by decide +kernel
theorem d_M_search_127 : decode b_M_search 127 = .ok (.aload_n 0, 1) := by decide +kernel
theorem d_M_search_128 : decode b_M_search 128 = .ok (.getfield 7, 3) := by decide +kernel
theorem d_M_search_131 : decode b_M_search 131 = .ok (.bipush 12, 2) := by decide +kernel
theorem d_M_search_133 : decode b_M_search 133 = .ok (.iload 6, 2) := by decide +kernel
theorem d_M_search_135 : decode b_M_search 135 = .ok (.imul, 1) := by decide +kernel
theorem d_M_search_136 : decode b_M_search 136 = .ok (.iload_n 3, 1) := by decide +kernel
theorem d_M_search_137 : decode b_M_search 137 = .ok (.iadd, 1) := by decide +kernel
theorem d_M_search_138 : decode b_M_search 138 = .ok (.iaload, 1) := by decide +kernel
theorem d_M_search_139 : decode b_M_search 139 = .ok (.iadd, 1) := by decide +kernel
theorem d_M_search_140 : decode b_M_search 140 = .ok (.istore 7, 2) := by decide +kernel
theorem d_M_search_142 : decode b_M_search 142 = .ok (.iload 7, 2) := by decide +kernel
theorem d_M_search_144 : decode b_M_search 144 = .ok (.iload 5, 2) := by decide +kernel
theorem d_M_search_146 : decode b_M_search 146 = .ok (.if_icmp .lt 29, 3) := by decide +kernel
theorem d_M_search_149 : decode b_M_search 149 = .ok (.iload 7, 2) := by decide +kernel
theorem d_M_search_151 : decode b_M_search 151 = .ok (.iload 5, 2) := by decide +kernel
theorem d_M_search_153 : decode b_M_search 153 = .ok (.if_icmp .ne 30, 3) := by decide +kernel
theorem d_M_search_156 : decode b_M_search 156 = .ok (.iload 7, 2) := by decide +kernel
theorem d_M_search_158 : decode b_M_search 158 = .ok (.ldc 128, 2) := by decide +kernel
theorem d_M_search_160 : decode b_M_search 160 = .ok (.if_icmp .ge 23, 3) := by decide +kernel
theorem d_M_search_163 : decode b_M_search 163 = .ok (.aload_n 0, 1) := by decide +kernel
theorem d_M_search_164 : decode b_M_search 164 = .ok (.iload 6, 2) := by decide +kernel
theorem d_M_search_166 : decode b_M_search 166 = .ok (.iload 4, 2) := by decide +kernel
theorem d_M_search_168 : decode b_M_search 168 = .ok (.iload_n 2, 1) := by decide +kernel
theorem d_M_search_169 : decode b_M_search 169 = .ok (.invokevirtual 129, 3) := by decide +kernel
theorem d_M_search_172 : decode b_M_search 172 = .ok (.ifCond .eq 11, 3) := by decide +kernel
theorem d_M_search_175 : decode b_M_search 175 = .ok (.iload 7, 2) := by decide +kernel
theorem d_M_search_177 : decode b_M_search 177 = .ok (.istore 5, 2) := by decide +kernel
theorem d_M_search_179 : decode b_M_search 179 = .ok (.iload 6, 2) := by decide +kernel
theorem d_M_search_181 : decode b_M_search 181 = .ok (.istore 4, 2) := by decide +kernel
theorem d_M_search_183 : decode b_M_search 183 = .ok (.iinc 6 1, 3) := by decide +kernel
theorem d_M_search_186 : decode b_M_search 186 = .ok (.goto (-92), 3) := by decide +kernel
theorem d_M_search_189 : decode b_M_search 189 = .ok (.aload_n 0, 1) := by decide +kernel
theorem d_M_search_190 : decode b_M_search 190 = .ok (.getfield 77, 3) := by decide +kernel
theorem d_M_search_193 : decode b_M_search 193 = .ok (.iload_n 3, 1) := by decide +kernel
theorem d_M_search_194 : decode b_M_search 194 = .ok (.iload 4, 2) := by decide +kernel
theorem d_M_search_196 : decode b_M_search 196 = .ok (.iconst (-1), 1) := by decide +kernel
theorem d_M_search_197 : decode b_M_search 197 = .ok (.if_icmp .eq 13, 3) := by decide +kernel
theorem d_M_search_200 : decode b_M_search 200 = .ok (.aload_n 0, 1) := by decide +kernel
theorem d_M_search_201 : decode b_M_search 201 = .ok (.iload_n 2, 1) := by decide +kernel
theorem d_M_search_202 : decode b_M_search 202 = .ok (.iload_n 3, 1) := by decide +kernel
theorem d_M_search_203 : decode b_M_search 203 = .ok (.iload_n 1, 1) := by decide +kernel
theorem d_M_search_204 : decode b_M_search 204 = .ok (.invokevirtual 124, 3) := by decide +kernel
theorem d_M_search_207 : decode b_M_search 207 = .ok (.ifCond .ne 8, 3) := by decide +kernel
theorem d_M_search_210 : decode b_M_search 210 = .ok (.ldc 128, 2) := by decide +kernel
theorem d_M_search_212 : decode b_M_search 212 = .ok (.goto 22, 3) := by decide +kernel
theorem d_M_search_215 : decode b_M_search 215 = .ok (.iload 5, 2) := by decide +kernel
theorem d_M_search_217 : decode b_M_search 217 = .ok (.aload_n 0, 1) := by decide +kernel
theorem d_M_search_218 : decode b_M_search 218 = .ok (.getfield 13, 3) := by decide +kernel
theorem d_M_search_221 : decode b_M_search 221 = .ok (.bipush 10, 2) := by decide +kernel
theorem d_M_search_223 : decode b_M_search 223 = .ok (.iload_n 3, 1) := by decide +kernel
theorem d_M_search_224 : decode b_M_search 224 = .ok (.imul, 1) := by decide +kernel
theorem d_M_search_225 : decode b_M_search 225 = .ok (.aload_n 0, 1) := by decide +kernel
theorem d_M_search_226 : decode b_M_search 226 = .ok (.getfield 26, 3) := by decide +kernel
theorem d_M_search_229 : decode b_M_search 229 = .ok (.iload_n 2, 1) := by decide +kernel
theorem d_M_search_230 : decode b_M_search 230 = .ok (.iaload, 1) := by decide +kernel
theorem d_M_search_231 : decode b_M_search 231 = .ok (.iadd, 1) := by decide +kernel
theorem d_M_search_232 : decode b_M_search 232 = .ok (.iaload, 1) := by decide +kernel
theorem d_M_search_233 : decode b_M_search 233 = .ok (.iadd, 1) := by decide +kernel
theorem d_M_search_234 : decode b_M_search 234 = .ok (.iastore, 1) := by decide +kernel
theorem d_M_search_235 : decode b_M_search 235 = .ok (.iconst 0, 1) := by decide +kernel
theorem d_M_search_236 : decode b_M_search 236 = .ok (.istore 6, 2) := by decide +kernel
theorem d_M_search_238 : decode b_M_search 238 = .ok (.iload 6, 2) := by decide +kernel
theorem d_M_search_240 : decode b_M_search 240 = .ok (.iload_n 2, 1) := by decide +kernel
theorem d_M_search_241 : decode b_M_search 241 = .ok (.if_icmp .ge 42, 3) := by decide +kernel
theorem d_M_search_244 : decode b_M_search 244 = .ok (.iload 4, 2) := by decide +kernel
theorem d_M_search_246 : decode b_M_search 246 = .ok (.iconst (-1), 1) := by decide +kernel
theorem d_M_search_247 : decode b_M_search 247 = .ok (.if_icmp .eq 36, 3) := by decide +kernel
theorem d_M_search_250 : decode b_M_search 250 = .ok (.aload_n 0, 1) := by decide +kernel
theorem d_M_search_251 : decode b_M_search 251 = .ok (.getfield 71, 3) := by decide +kernel
theorem d_M_search_254 : decode b_M_search 254 = .ok (.sipush 200, 3) := by decide +kernel
theorem d_M_search_257 : decode b_M_search 257 = .ok (.iload_n 3, 1) := by decide +kernel
theorem d_M_search_258 : decode b_M_search 258 = .ok (.imul, 1) := by decide +kernel
theorem d_M_search_259 : decode b_M_search 259 = .ok (.iload 6, 2) := by decide +kernel
theorem d_M_search_261 : decode b_M_search 261 = .ok (.iadd, 1) := by decide +kernel
theorem d_M_search_262 : decode b_M_search 262 = .ok (.aload_n 0, 1) := by decide +kernel
theorem d_M_search_263 : decode b_M_search 263 = .ok (.getfield 68, 3) := by decide +kernel
theorem d_M_search_266 : decode b_M_search 266 = .ok (.sipush 200, 3) := by decide +kernel
theorem d_M_search_269 : decode b_M_search 269 = .ok (.iload 4, 2) := by decide +kernel
theorem d_M_search_271 : decode b_M_search 271 = .ok (.imul, 1) := by decide +kernel
theorem d_M_search_272 : decode b_M_search 272 = .ok (.iload 6, 2) := by decide +kernel
theorem d_M_search_274 : decode b_M_search 274 = .ok (.iadd, 1) := by decide +kernel
theorem d_M_search_275 : decode b_M_search 275 = .ok (.iaload, 1) := by decide +kernel
theorem d_M_search_276 : decode b_M_search 276 = .ok (.iastore, 1) := by decide +kernel
theorem d_M_search_277 : decode b_M_search 277 = .ok (.iinc 6 1, 3) := by decide +kernel
theorem d_M_search_280 : decode b_M_search 280 = .ok (.goto (-42), 3) := by decide +kernel
theorem d_M_search_283 : decode b_M_search 283 = .ok (.aload_n 0, 1) := by decide +kernel
theorem d_M_search_284 : decode b_M_search 284 = .ok (.getfield 71, 3) := by decide +kernel
theorem d_M_search_287 : decode b_M_search 287 = .ok (.sipush 200, 3) := by decide +kernel
theorem d_M_search_290 : decode b_M_search 290 = .ok (.iload_n 3, 1) := by decide +kernel
theorem d_M_search_291 : decode b_M_search 291 = .ok (.imul, 1) := by decide +kernel
theorem d_M_search_292 : decode b_M_search 292 = .ok (.iload_n 2, 1) := by decide +kernel
theorem d_M_search_293 : decode b_M_search 293 = .ok (.iadd, 1) := by decide +kernel
theorem d_M_search_294 : decode b_M_search 294 = .ok (.iload_n 3, 1) := by decide +kernel
theorem d_M_search_295 : decode b_M_search 295 = .ok (.iastore, 1) := by decide +kernel
theorem d_M_search_296 : decode b_M_search 296 = .ok (.iinc 3 1, 3) := by decide +kernel
theorem d_M_search_299 : decode b_M_search 299 = .ok (.goto (-223), 3) := by decide +kernel
theorem d_M_search_302 : decode b_M_search 302 = .ok (.iconst 0, 1) := by decide +kernel
theorem d_M_search_303 : decode b_M_search 303 = .ok (.istore_n 3, 1) := by decide +kernel
theorem d_M_search_304 : decode b_M_search 304 = .ok (.iload_n 3, 1) := by decide +kernel
theorem d_M_search_305 : decode b_M_search 305 = .ok (.aload_n 0, 1) := by decide +kernel
theorem d_M_search_306 : decode b_M_search 306 = .ok (.getfield 89, 3) := by decide +kernel
theorem d_M_search_309 : decode b_M_search 309 = .ok (.if_icmp .ge 62, 3) := by decide +kernel
theorem d_M_search_312 : decode b_M_search 312 = .ok (.aload_n 0, 1) := by decide +kernel
theorem d_M_search_313 : decode b_M_search 313 = .ok (.getfield 74, 3) := by decide +kernel
theorem d_M_search_316 : decode b_M_search 316 = .ok (.iload_n 3, 1) := by decide +kernel
theorem d_M_search_317 : decode b_M_search 317 = .ok (.aload_n 0, 1) := by decide +kernel
theorem d_M_search_318 : decode b_M_search 318 = .ok (.getfield 77, 3) := by decide +kernel
theorem d_M_search_321 : decode b_M_search 321 = .ok (.iload_n 3, 1) := by decide +kernel
theorem d_M_search_322 : decode b_M_search 322 = .ok (.iaload, 1) := by decide +kernel
theorem d_M_search_323 : decode b_M_search 323 = .ok (.iastore, 1) := by decide +kernel
theorem d_M_search_324 : decode b_M_search 324 = .ok (.iconst 0, 1) := by decide +kernel
theorem d_M_search_325 : decode b_M_search 325 = .ok (.istore 4, 2) := by decide +kernel
theorem d_M_search_327 : decode b_M_search 327 = .ok (.iload 4, 2) := by decide +kernel
theorem d_M_search_329 : decode b_M_search 329 = .ok (.iload_n 2, 1) := by decide +kernel
theorem d_M_search_330 : decode b_M_search 330 = .ok (.if_icmp .gt 35, 3) := by decide +kernel
theorem d_M_search_333 : decode b_M_search 333 = .ok (.aload_n 0, 1) := by decide +kernel
theorem d_M_search_334 : decode b_M_search 334 = .ok (.getfield 68, 3) := by decide +kernel
theorem d_M_search_337 : decode b_M_search 337 = .ok (.sipush 200, 3) := by decide +kernel
theorem d_M_search_340 : decode b_M_search 340 = .ok (.iload_n 3, 1) := by decide +kernel
theorem d_M_search_341 : decode b_M_search 341 = .ok (.imul, 1) := by decide +kernel
theorem d_M_search_342 : decode b_M_search 342 = .ok (.iload 4, 2) := by decide +kernel
theorem d_M_search_344 : decode b_M_search 344 = .ok (.iadd, 1) := by decide +kernel
theorem d_M_search_345 : decode b_M_search 345 = .ok (.aload_n 0, 1) := by decide +kernel
theorem d_M_search_346 : decode b_M_search 346 = .ok (.getfield 71, 3) := by decide +kernel
theorem d_M_search_349 : decode b_M_search 349 = .ok (.sipush 200, 3) := by decide +kernel
theorem d_M_search_352 : decode b_M_search 352 = .ok (.iload_n 3, 1) := by decide +kernel
theorem d_M_search_353 : decode b_M_search 353 = .ok (.imul, 1) := by decide +kernel
theorem d_M_search_354 : decode b_M_search 354 = .ok (.iload 4, 2) := by decide +kernel
theorem d_M_search_356 : decode b_M_search 356 = .ok (.iadd, 1) := by decide +kernel
theorem d_M_search_357 : decode b_M_search 357 = .ok (.iaload, 1) := by decide +kernel
theorem d_M_search_358 : decode b_M_search 358 = .ok (.iastore, 1) := by decide +kernel
theorem d_M_search_359 : decode b_M_search 359 = .ok (.iinc 4 1, 3) := by decide +kernel
theorem d_M_search_362 : decode b_M_search 362 = .ok (.goto (-35), 3) := by decide +kernel
theorem d_M_search_365 : decode b_M_search 365 = .ok (.iinc 3 1, 3) := by decide +kernel
theorem d_M_search_368 : decode b_M_search 368 = .ok (.goto (-64), 3) := by decide +kernel
theorem d_M_search_371 : decode b_M_search 371 = .ok (.iinc 2 1, 3) := by decide +kernel
theorem d_M_search_374 : decode b_M_search 374 = .ok (.goto (-308), 3) := by decide +kernel
theorem d_M_search_377 : decode b_M_search 377 = .ok (.iconst 0, 1) := by decide +kernel
theorem d_M_search_378 : decode b_M_search 378 = .ok (.istore_n 2, 1) := by decide +kernel
theorem d_M_search_379 : decode b_M_search 379 = .ok (.iconst 1, 1) := by decide +kernel
theorem d_M_search_380 : decode b_M_search 380 = .ok (.istore_n 3, 1) := by decide +kernel
theorem d_M_search_381 : decode b_M_search 381 = .ok (.iload_n 3, 1) := by decide +kernel
theorem d_M_search_382 : decode b_M_search 382 = .ok (.aload_n 0, 1) := by decide +kernel
theorem d_M_search_383 : decode b_M_search 383 = .ok (.getfield 89, 3) := by decide +kernel
theorem d_M_search_386 : decode b_M_search 386 = .ok (.if_icmp .ge 69, 3) := by decide +kernel
theorem d_M_search_389 : decode b_M_search 389 = .ok (.aload_n 0, 1) := by decide +kernel
theorem d_M_search_390 : decode b_M_search 390 = .ok (.getfield 74, 3) := by decide +kernel
theorem d_M_search_393 : decode b_M_search 393 = .ok (.iload_n 3, 1) := by decide +kernel
theorem d_M_search_394 : decode b_M_search 394 = .ok (.iaload, 1) := by decide +kernel
theorem d_M_search_395 : decode b_M_search 395 = .ok (.aload_n 0, 1) := by decide +kernel
theorem d_M_search_396 : decode b_M_search 396 = .ok (.getfield 74, 3) := by decide +kernel
theorem d_M_search_399 : decode b_M_search 399 = .ok (.iload_n 2, 1) := by decide +kernel
theorem d_M_search_400 : decode b_M_search 400 = .ok (.iaload, 1) := by decide +kernel
theorem d_M_search_401 : decode b_M_search 401 = .ok (.if_icmp .lt 42, 3) := by decide +kernel
theorem d_M_search_404 : decode b_M_search 404 = .ok (.aload_n 0, 1) := by decide +kernel
theorem d_M_search_405 : decode b_M_search 405 = .ok (.getfield 74, 3) := by decide +kernel
theorem d_M_search_408 : decode b_M_search 408 = .ok (.iload_n 3, 1) := by decide +kernel
theorem d_M_search_409 : decode b_M_search 409 = .ok (.iaload, 1) := by decide +kernel
theorem d_M_search_410 : decode b_M_search 410 = .ok (.aload_n 0, 1) := by decide +kernel
theorem d_M_search_411 : decode b_M_search 411 = .ok (.getfield 74, 3) := by decide +kernel
theorem d_M_search_414 : decode b_M_search 414 = .ok (.iload_n 2, 1) := by decide +kernel
theorem d_M_search_415 : decode b_M_search 415 = .ok (.iaload, 1) := by decide +kernel
theorem d_M_search_416 : decode b_M_search 416 = .ok (.if_icmp .ne 31, 3) := by decide +kernel
theorem d_M_search_419 : decode b_M_search 419 = .ok (.aload_n 0, 1) := by decide +kernel
theorem d_M_search_420 : decode b_M_search 420 = .ok (.getfield 74, 3) := by decide +kernel
theorem d_M_search_423 : decode b_M_search 423 = .ok (.iload_n 3, 1) := by decide +kernel
theorem d_M_search_424 : decode b_M_search 424 = .ok (.iaload, 1) := by decide +kernel
theorem d_M_search_425 : decode b_M_search 425 = .ok (.ldc 128, 2) := by decide +kernel
theorem d_M_search_427 : decode b_M_search 427 = .ok (.if_icmp .ge 20, 3) := by decide +kernel
theorem d_M_search_430 : decode b_M_search 430 = .ok (.aload_n 0, 1) := by decide +kernel
theorem d_M_search_431 : decode b_M_search 431 = .ok (.iload_n 3, 1) := by decide +kernel
theorem d_M_search_432 : decode b_M_search 432 = .ok (.iload_n 2, 1) := by decide +kernel
theorem d_M_search_433 : decode b_M_search 433 = .ok (.aload_n 0, 1) := by decide +kernel
theorem d_M_search_434 : decode b_M_search 434 = .ok (.getfield 93, 3) := by decide +kernel
theorem d_M_search_437 : decode b_M_search 437 = .ok (.invokevirtual 129, 3) := by decide +kernel
theorem d_M_search_440 : decode b_M_search 440 = .ok (.ifCond .eq 7, 3) := by decide +kernel
theorem d_M_search_443 : decode b_M_search 443 = .ok (.iload_n 3, 1) := by decide +kernel
theorem d_M_search_444 : decode b_M_search 444 = .ok (.goto 4, 3) := by decide +kernel
theorem d_M_search_447 : decode b_M_search 447 = .ok (.iload_n 2, 1) := by decide +kernel
theorem d_M_search_448 : decode b_M_search 448 = .ok (.istore_n 2, 1) := by decide +kernel
theorem d_M_search_449 : decode b_M_search 449 = .ok (.iinc 3 1, 3) := by decide +kernel
theorem d_M_search_452 : decode b_M_search 452 = .ok (.goto (-71), 3) := by decide +kernel
theorem d_M_search_455 : decode b_M_search 455 = .ok (.iconst 0, 1) := by decide +kernel
theorem d_M_search_456 : decode b_M_search 456 = .ok (.istore_n 3, 1) := by decide +kernel
theorem d_M_search_457 : decode b_M_search 457 = .ok (.iload_n 3, 1) := by decide +kernel
theorem d_M_search_458 : decode b_M_search 458 = .ok (.aload_n 0, 1) := by decide +kernel
theorem d_M_search_459 : decode b_M_search 459 = .ok (.getfield 93, 3) := by decide +kernel
theorem d_M_search_462 : decode b_M_search 462 = .ok (.if_icmp .ge 27, 3) := by decide +kernel
theorem d_M_search_465 : decode b_M_search 465 = .ok (.aload_n 0, 1) := by decide +kernel
theorem d_M_search_466 : decode b_M_search 466 = .ok (.getfield 86, 3) := by decide +kernel
theorem d_M_search_469 : decode b_M_search 469 = .ok (.iload_n 3, 1) := by decide +kernel
theorem d_M_search_470 : decode b_M_search 470 = .ok (.aload_n 0, 1) := by decide +kernel
theorem d_M_search_471 : decode b_M_search 471 = .ok (.getfield 68, 3) := by decide +kernel
theorem d_M_search_474 : decode b_M_search 474 = .ok (.sipush 200, 3) := by decide +kernel
theorem d_M_search_477 : decode b_M_search 477 = .ok (.iload_n 2, 1) := by decide +kernel
theorem d_M_search_478 : decode b_M_search 478 = .ok (.imul, 1) := by decide +kernel
theorem d_M_search_479 : decode b_M_search 479 = .ok (.iload_n 3, 1) := by decide +kernel
theorem d_M_search_480 : decode b_M_search 480 = .ok (.iadd, 1) := by decide +kernel
theorem d_M_search_481 : decode b_M_search 481 = .ok (.iaload, 1) := by decide +kernel
theorem d_M_search_482 : decode b_M_search 482 = .ok (.iastore, 1) := by decide +kernel
theorem d_M_search_483 : decode b_M_search 483 = .ok (.iinc 3 1, 3) := by decide +kernel
theorem d_M_search_486 : decode b_M_search 486 = .ok (.goto (-29), 3) := by decide +kernel
theorem d_M_search_489 : decode b_M_search 489 = .ok (.aload_n 0, 1) := by decide +kernel
theorem d_M_search_490 : decode b_M_search 490 = .ok (.getfield 74, 3) := by decide +kernel
theorem d_M_search_493 : decode b_M_search 493 = .ok (.iload_n 2, 1) := by decide +kernel
theorem d_M_search_494 : decode b_M_search 494 = .ok (.iaload, 1) := by decide +kernel
theorem d_M_search_495 : decode b_M_search 495 = .ok (.ireturn, 1) := by decide +kernel
theorem d_M_may_0 : decode b_M_may 0 = .ok (.aload_n 0, 1) := by decide +kernel
theorem d_M_may_1 : decode b_M_may 1 = .ok (.getfield 35, 3) := by decide +kernel
theorem d_M_may_4 : decode b_M_may 4 = .ok (.iload_n 1, 1) := by decide +kernel
theorem d_M_may_5 : decode b_M_may 5 = .ok (.iaload, 1) := by decide +kernel
theorem d_M_may_6 : decode b_M_may 6 = .ok (.iconst (-1), 1) := by decide +kernel
theorem d_M_may_7 : decode b_M_may 7 = .ok (.if_icmp .eq 28, 3) := by decide +kernel
theorem d_M_may_10 : decode b_M_may 10 = .ok (.iload_n 3, 1) := by decide +kernel
theorem d_M_may_11 : decode b_M_may 11 = .ok (.iconst (-1), 1) := by decide +kernel
theorem d_M_may_12 : decode b_M_may 12 = .ok (.if_icmp .eq 13, 3) := by decide +kernel
theorem d_M_may_15 : decode b_M_may 15 = .ok (.aload_n 0, 1) := by decide +kernel
theorem d_M_may_16 : decode b_M_may 16 = .ok (.getfield 32, 3) := by decide +kernel
theorem d_M_may_19 : decode b_M_may 19 = .ok (.iload_n 1, 1) := by decide +kernel
theorem d_M_may_20 : decode b_M_may 20 = .ok (.iaload, 1) := by decide +kernel
theorem d_M_may_21 : decode b_M_may 21 = .ok (.iload_n 3, 1) := by decide +kernel
theorem d_M_may_22 : decode b_M_may 22 = .ok (.if_icmp .eq 13, 3) := by decide +kernel
theorem d_M_may_25 : decode b_M_may 25 = .ok (.aload_n 0, 1) := by decide +kernel
theorem d_M_may_26 : decode b_M_may 26 = .ok (.getfield 35, 3) := by decide +kernel
theorem d_M_may_29 : decode b_M_may 29 = .ok (.iload_n 1, 1) := by decide +kernel
theorem d_M_may_30 : decode b_M_may 30 = .ok (.iaload, 1) := by decide +kernel
theorem d_M_may_31 : decode b_M_may 31 = .ok (.iload_n 2, 1) := by decide +kernel
theorem d_M_may_32 : decode b_M_may 32 = .ok (.if_icmp .ne 7, 3) := by decide +kernel
theorem d_M_may_35 : decode b_M_may 35 = .ok (.iconst 1, 1) := by decide +kernel
theorem d_M_may_36 : decode b_M_may 36 = .ok (.goto 4, 3) := by decide +kernel
theorem d_M_may_39 : decode b_M_may 39 = .ok (.iconst 0, 1) := by decide +kernel
theorem d_M_may_40 : decode b_M_may 40 = .ok (.ireturn, 1) := by decide +kernel
theorem d_M_isFirst_0 : decode b_M_isFirst 0 = .ok (.iconst 0, 1) := by decide +kernel
theorem d_M_isFirst_1 : decode b_M_isFirst 1 = .ok (.istore 4, 2) := by decide +kernel
theorem d_M_isFirst_3 : decode b_M_isFirst 3 = .ok (.iload 4, 2) := by decide +kernel
theorem d_M_isFirst_5 : decode b_M_isFirst 5 = .ok (.iload_n 3, 1) := by decide +kernel
theorem d_M_isFirst_6 : decode b_M_isFirst 6 = .ok (.if_icmp .ge 73, 3) := by decide +kernel
theorem d_M_isFirst_9 : decode b_M_isFirst 9 = .ok (.aload_n 0, 1) := by decide +kernel
theorem d_M_isFirst_10 : decode b_M_isFirst 10 = .ok (.getfield 68, 3) := by decide +kernel
theorem d_M_isFirst_13 : decode b_M_isFirst 13 = .ok (.sipush 200, 3) := by decide +kernel
theorem d_M_isFirst_16 : decode b_M_isFirst 16 = .ok (.iload_n 1, 1) := by decide +kernel
theorem d_M_isFirst_17 : decode b_M_isFirst 17 = .ok (.imul, 1) := by decide +kernel
theorem d_M_isFirst_18 : decode b_M_isFirst 18 = .ok (.iload 4, 2) := by decide +kernel
theorem d_M_isFirst_20 : decode b_M_isFirst 20 = .ok (.iadd, 1) := by decide +kernel
theorem d_M_isFirst_21 : decode b_M_isFirst 21 = .ok (.iaload, 1) := by decide +kernel
theorem d_M_isFirst_22 : decode b_M_isFirst 22 = .ok (.aload_n 0, 1) := by decide +kernel
theorem d_M_isFirst_23 : decode b_M_isFirst 23 = .ok (.getfield 68, 3) := by decide +kernel
theorem d_M_isFirst_26 : decode b_M_isFirst 26 = .ok (.sipush 200, 3) := by decide +kernel
theorem d_M_isFirst_29 : decode b_M_isFirst 29 = .ok (.iload_n 2, 1) := by decide +kernel
theorem d_M_isFirst_30 : decode b_M_isFirst 30 = .ok (.imul, 1) := by decide +kernel
theorem d_M_isFirst_31 : decode b_M_isFirst 31 = .ok (.iload 4, 2) := by decide +kernel
theorem d_M_isFirst_33 : decode b_M_isFirst 33 = .ok (.iadd, 1) := by decide +kernel
theorem d_M_isFirst_34 : decode b_M_isFirst 34 = .ok (.iaload, 1) := by decide +kernel
theorem d_M_isFirst_35 : decode b_M_isFirst 35 = .ok (.if_icmp .eq 38, 3) := by decide +kernel
theorem d_M_isFirst_38 : decode b_M_isFirst 38 = .ok (.aload_n 0, 1) := by decide +kernel
theorem d_M_isFirst_39 : decode b_M_isFirst 39 = .ok (.getfield 68, 3) := by decide +kernel
theorem d_M_isFirst_42 : decode b_M_isFirst 42 = .ok (.sipush 200, 3) := by decide +kernel
theorem d_M_isFirst_45 : decode b_M_isFirst 45 = .ok (.iload_n 1, 1) := by decide +kernel
theorem d_M_isFirst_46 : decode b_M_isFirst 46 = .ok (.imul, 1) := by decide +kernel
theorem d_M_isFirst_47 : decode b_M_isFirst 47 = .ok (.iload 4, 2) := by decide +kernel
theorem d_M_isFirst_49 : decode b_M_isFirst 49 = .ok (.iadd, 1) := by decide +kernel
theorem d_M_isFirst_50 : decode b_M_isFirst 50 = .ok (.iaload, 1) := by decide +kernel
theorem d_M_isFirst_51 : decode b_M_isFirst 51 = .ok (.aload_n 0, 1) := by decide +kernel
theorem d_M_isFirst_52 : decode b_M_isFirst 52 = .ok (.getfield 68, 3) := by decide +kernel
theorem d_M_isFirst_55 : decode b_M_isFirst 55 = .ok (.sipush 200, 3) := by decide +kernel
theorem d_M_isFirst_58 : decode b_M_isFirst 58 = .ok (.iload_n 2, 1) := by decide +kernel
theorem d_M_isFirst_59 : decode b_M_isFirst 59 = .ok (.imul, 1) := by decide +kernel
theorem d_M_isFirst_60 : decode b_M_isFirst 60 = .ok (.iload 4, 2) := by decide +kernel
theorem d_M_isFirst_62 : decode b_M_isFirst 62 = .ok (.iadd, 1) := by decide +kernel
theorem d_M_isFirst_63 : decode b_M_isFirst 63 = .ok (.iaload, 1) := by decide +kernel
theorem d_M_isFirst_64 : decode b_M_isFirst 64 = .ok (.if_icmp .ge 7, 3) := by decide +kernel
theorem d_M_isFirst_67 : decode b_M_isFirst 67 = .ok (.iconst 1, 1) := by decide +kernel
theorem d_M_isFirst_68 : decode b_M_isFirst 68 = .ok (.goto 4, 3) := by decide +kernel
theorem d_M_isFirst_71 : decode b_M_isFirst 71 = .ok (.iconst 0, 1) := by decide +kernel
theorem d_M_isFirst_72 : decode b_M_isFirst 72 = .ok (.ireturn, 1) := by decide +kernel
theorem d_M_isFirst_73 : decode b_M_isFirst 73 = .ok (.iinc 4 1, 3) := by decide +kernel
theorem d_M_isFirst_76 : decode b_M_isFirst 76 = .ok (.goto (-73), 3) := by decide +kernel
theorem d_M_isFirst_79 : decode b_M_isFirst 79 = .ok (.iconst 0, 1) := by decide +kernel
theorem d_M_isFirst_80 : decode b_M_isFirst 80 = .ok (.ireturn, 1) := by decide +kernel
theorem d_M_bothEnds_0 : decode b_M_bothEnds 0 = .ok (.iconst 0, 1) := by decide +kernel
theorem d_M_bothEnds_1 : decode b_M_bothEnds 1 = .ok (.istore_n 1, 1) := by decide +kernel
theorem d_M_bothEnds_2 : decode b_M_bothEnds 2 = .ok (.iload_n 1, 1) := by decide +kernel
theorem d_M_bothEnds_3 : decode b_M_bothEnds 3 = .ok (.aload_n 0, 1) := by decide +kernel
theorem d_M_bothEnds_4 : decode b_M_bothEnds 4 = .ok (.getfield 93, 3) := by decide +kernel
theorem d_M_bothEnds_7 : decode b_M_bothEnds 7 = .ok (.if_icmp .ge 174, 3) := by decide +kernel
theorem d_M_bothEnds_10 : decode b_M_bothEnds 10 = .ok (.iconst 0, 1) := by decide +kernel
theorem d_M_bothEnds_11 : decode b_M_bothEnds 11 = .ok (.istore_n 2, 1) := by decide +kernel
theorem d_M_bothEnds_12 : decode b_M_bothEnds 12 = .ok (.iload_n 2, 1) := by decide +kernel
theorem d_M_bothEnds_13 : decode b_M_bothEnds 13 = .ok (.aload_n 0, 1) := by decide +kernel
theorem d_M_bothEnds_14 : decode b_M_bothEnds 14 = .ok (.getfield 89, 3) := by decide +kernel
theorem d_M_bothEnds_17 : decode b_M_bothEnds 17 = .ok (.if_icmp .ge 158, 3) := by decide +kernel
theorem d_M_bothEnds_20 : decode b_M_bothEnds 20 = .ok (.iload_n 1, 1) := by decide +kernel
theorem d_M_bothEnds_21 : decode b_M_bothEnds 21 = .ok (.ifCond .ne 7, 3) := by decide +kernel
theorem d_M_bothEnds_24 : decode b_M_bothEnds 24 = .ok (.iconst 0, 1) := by decide +kernel
theorem d_M_bothEnds_25 : decode b_M_bothEnds 25 = .ok (.goto 5, 3) := by decide +kernel
theorem d_M_bothEnds_28 : decode b_M_bothEnds 28 = .ok (.ldc 128, 2) := by decide +kernel
theorem d_M_bothEnds_30 : decode b_M_bothEnds 30 = .ok (.istore_n 3, 1) := by decide +kernel
theorem d_M_bothEnds_31 : decode b_M_bothEnds 31 = .ok (.iconst 0, 1) := by decide +kernel
theorem d_M_bothEnds_32 : decode b_M_bothEnds 32 = .ok (.istore 4, 2) := by decide +kernel
theorem d_M_bothEnds_34 : decode b_M_bothEnds 34 = .ok (.iload 4, 2) := by decide +kernel
theorem d_M_bothEnds_36 : decode b_M_bothEnds 36 = .ok (.aload_n 0, 1) := by decide +kernel
theorem d_M_bothEnds_37 : decode b_M_bothEnds 37 = .ok (.getfield 89, 3) := by decide +kernel
theorem d_M_bothEnds_40 : decode b_M_bothEnds 40 = .ok (.if_icmp .ge 79, 3) := by decide +kernel
theorem d_M_bothEnds_43 : decode b_M_bothEnds 43 = .ok (.iload_n 1, 1) := by decide +kernel
theorem d_M_bothEnds_44 : decode b_M_bothEnds 44 = .ok (.ifCond .le 75, 3) := by decide +kernel
theorem d_M_bothEnds_47 : decode b_M_bothEnds 47 = .ok (.aload_n 0, 1) := by decide +kernel
theorem d_M_bothEnds_48 : decode b_M_bothEnds 48 = .ok (.getfield 80, 3) := by decide +kernel
theorem d_M_bothEnds_51 : decode b_M_bothEnds 51 = .ok (.bipush 12, 2) := by decide +kernel
theorem d_M_bothEnds_53 : decode b_M_bothEnds 53 = .ok (.iload_n 1, 1) := by decide +kernel
theorem d_M_bothEnds_54 : decode b_M_bothEnds 54 = .ok (.iconst 1, 1) := by decide +kernel
theorem d_M_bothEnds_55 : decode b_M_bothEnds 55 = .ok (.isub, 1) := by decide +kernel
theorem d_M_bothEnds_56 : decode b_M_bothEnds 56 = .ok (.imul, 1) := by decide +kernel
theorem d_M_bothEnds_57 : decode b_M_bothEnds 57 = .ok (.iload 4, 2) := by decide +kernel
theorem d_M_bothEnds_59 : decode b_M_bothEnds 59 = .ok (.iadd, 1) := by decide +kernel
theorem d_M_bothEnds_60 : decode b_M_bothEnds 60 = .ok (.iaload, 1) := by decide +kernel
theorem d_M_bothEnds_61 : decode b_M_bothEnds 61 = .ok (.ldc 128, 2) := by decide +kernel
theorem d_M_bothEnds_63 : decode b_M_bothEnds 63 = .ok (.if_icmp .lt 8, 3) := by decide +kernel
theorem d_M_bothEnds_66 : decode b_M_bothEnds 66 = .ok (.ldc 128, 2) := by decide +kernel
theorem d_M_bothEnds_68 : decode b_M_bothEnds 68 = .ok (.goto 30, 3) := by decide +kernel
theorem d_M_bothEnds_71 : decode b_M_bothEnds 71 = .ok (.aload_n 0, 1) := by decide +kernel
theorem d_M_bothEnds_72 : decode b_M_bothEnds 72 = .ok (.getfield 80, 3) := by decide +kernel
theorem d_M_bothEnds_75 : decode b_M_bothEnds 75 = .ok (.bipush 12, 2) := by decide +kernel
theorem d_M_bothEnds_77 : decode b_M_bothEnds 77 = .ok (.iload_n 1, 1) := by decide +kernel
theorem d_M_bothEnds_78 : decode b_M_bothEnds 78 = .ok (.iconst 1, 1) := by decide +kernel
theorem d_M_bothEnds_79 : decode b_M_bothEnds 79 = .ok (.isub, 1) := by decide +kernel
theorem d_M_bothEnds_80 : decode b_M_bothEnds 80 = .ok (.imul, 1) := by decide +kernel
theorem d_M_bothEnds_81 : decode b_M_bothEnds 81 = .ok (.iload 4, 2) := by decide +kernel
theorem d_M_bothEnds_83 : decode b_M_bothEnds 83 = .ok (.iadd, 1) := by decide +kernel
theorem d_M_bothEnds_84 : decode b_M_bothEnds 84 = .ok (.iaload, 1) := by decide +kernel
theorem d_M_bothEnds_85 : decode b_M_bothEnds 85 = .ok (.aload_n 0, 1) := by decide +kernel
theorem d_M_bothEnds_86 : decode b_M_bothEnds 86 = .ok (.getfield 7, 3) := by decide +kernel
theorem d_M_bothEnds_89 : decode b_M_bothEnds 89 = .ok (.bipush 12, 2) := by decide +kernel
theorem d_M_bothEnds_91 : decode b_M_bothEnds 91 = .ok (.iload 4, 2) := by decide +kernel
theorem d_M_bothEnds_93 : decode b_M_bothEnds 93 = .ok (.imul, 1) := by decide +kernel
theorem d_M_bothEnds_94 : decode b_M_bothEnds 94 = .ok (.iload_n 2, 1) := by decide +kernel
theorem d_M_bothEnds_95 : decode b_M_bothEnds 95 = .ok (.iadd, 1) := by decide +kernel
theorem d_M_bothEnds_96 : decode b_M_bothEnds 96 = .ok (.iaload, 1) := by decide +kernel
theorem d_M_bothEnds_97 : decode b_M_bothEnds 97 = .ok (.iadd, 1) := by decide +kernel
theorem d_M_bothEnds_98 : decode b_M_bothEnds 98 = .ok (.istore 5, 2) := by decide +kernel
theorem d_M_bothEnds_100 : decode b_M_bothEnds 100 = .ok (.iload 5, 2) := by decide +kernel
theorem d_M_bothEnds_102 : decode b_M_bothEnds 102 = .ok (.iload_n 3, 1) := by decide +kernel
theorem d_M_bothEnds_103 : decode b_M_bothEnds 103 = .ok (.if_icmp .ge 8, 3) := by decide +kernel
theorem d_M_bothEnds_106 : decode b_M_bothEnds 106 = .ok (.iload 5, 2) := by decide +kernel
theorem d_M_bothEnds_108 : decode b_M_bothEnds 108 = .ok (.goto 4, 3) := by decide +kernel
theorem d_M_bothEnds_111 : decode b_M_bothEnds 111 = .ok (.iload_n 3, 1) := by decide +kernel
theorem d_M_bothEnds_112 : decode b_M_bothEnds 112 = .ok (.istore_n 3, 1) := by decide +kernel
theorem d_M_bothEnds_113 : decode b_M_bothEnds 113 = .ok (.iinc 4 1, 3) := by decide +kernel
theorem d_M_bothEnds_116 : decode b_M_bothEnds 116 = .ok (.goto (-82), 3) := by decide +kernel
theorem d_M_bothEnds_119 : decode b_M_bothEnds 119 = .ok (.aload_n 0, 1) := by decide +kernel
theorem d_M_bothEnds_120 : decode b_M_bothEnds 120 = .ok (.getfield 80, 3) := by decide +kernel
theorem d_M_bothEnds_123 : decode b_M_bothEnds 123 = .ok (.bipush 12, 2) := by decide +kernel
theorem d_M_bothEnds_125 : decode b_M_bothEnds 125 = .ok (.iload_n 1, 1) := by decide +kernel
theorem d_M_bothEnds_126 : decode b_M_bothEnds 126 = .ok (.imul, 1) := by decide +kernel
theorem d_M_bothEnds_127 : decode b_M_bothEnds 127 = .ok (.iload_n 2, 1) := by decide +kernel
theorem d_M_bothEnds_128 : decode b_M_bothEnds 128 = .ok (.iadd, 1) := by decide +kernel
theorem d_M_bothEnds_129 : decode b_M_bothEnds 129 = .ok (.iload_n 3, 1) := by decide +kernel
theorem d_M_bothEnds_130 : decode b_M_bothEnds 130 = .ok (.ldc 128, 2) := by decide +kernel
theorem d_M_bothEnds_132 : decode b_M_bothEnds 132 = .ok (.if_icmp .ge 13, 3) := by decide +kernel
theorem d_M_bothEnds_135 : decode b_M_bothEnds 135 = .ok (.aload_n 0, 1) := by decide +kernel
theorem d_M_bothEnds_136 : decode b_M_bothEnds 136 = .ok (.iload_n 1, 1) := by decide +kernel
theorem d_M_bothEnds_137 : decode b_M_bothEnds 137 = .ok (.iload_n 2, 1) := by decide +kernel
theorem d_M_bothEnds_138 : decode b_M_bothEnds 138 = .ok (.iconst (-1), 1) := by decide +kernel
theorem d_M_bothEnds_139 : decode b_M_bothEnds 139 = .ok (.invokevirtual 124, 3) := by decide +kernel
theorem d_M_bothEnds_142 : decode b_M_bothEnds 142 = .ok (.ifCond .ne 8, 3) := by decide +kernel
theorem d_M_bothEnds_145 : decode b_M_bothEnds 145 = .ok (.ldc 128, 2) := by decide +kernel
theorem d_M_bothEnds_147 : decode b_M_bothEnds 147 = .ok (.goto 21, 3) := by decide +kernel
theorem d_M_bothEnds_150 : decode b_M_bothEnds 150 = .ok (.iload_n 3, 1) := by decide +kernel
theorem d_M_bothEnds_151 : decode b_M_bothEnds 151 = .ok (.aload_n 0, 1) := by decide +kernel
theorem d_M_bothEnds_152 : decode b_M_bothEnds 152 = .ok (.getfield 13, 3) := by decide +kernel
theorem d_M_bothEnds_155 : decode b_M_bothEnds 155 = .ok (.bipush 10, 2) := by decide +kernel
theorem d_M_bothEnds_157 : decode b_M_bothEnds 157 = .ok (.iload_n 2, 1) := by decide +kernel
theorem d_M_bothEnds_158 : decode b_M_bothEnds 158 = .ok (.imul, 1) := by decide +kernel
theorem d_M_bothEnds_159 : decode b_M_bothEnds 159 = .ok (.aload_n 0, 1) := by decide +kernel
theorem d_M_bothEnds_160 : decode b_M_bothEnds 160 = .ok (.getfield 26, 3) := by decide +kernel
theorem d_M_bothEnds_163 : decode b_M_bothEnds 163 = .ok (.iload_n 1, 1) := by decide +kernel
theorem d_M_bothEnds_164 : decode b_M_bothEnds 164 = .ok (.iaload, 1) := by decide +kernel
theorem d_M_bothEnds_165 : decode b_M_bothEnds 165 = .ok (.iadd, 1) := by decide +kernel
theorem d_M_bothEnds_166 : decode b_M_bothEnds 166 = .ok (.iaload, 1) := by decide +kernel
theorem d_M_bothEnds_167 : decode b_M_bothEnds 167 = .ok (.iadd, 1) := by decide +kernel
theorem d_M_bothEnds_168 : decode b_M_bothEnds 168 = .ok (.iastore, 1) := by decide +kernel
theorem d_M_bothEnds_169 : decode b_M_bothEnds 169 = .ok (.iinc 2 1, 3) := by decide +kernel
theorem d_M_bothEnds_172 : decode b_M_bothEnds 172 = .ok (.goto (-160), 3) := by decide +kernel
theorem d_M_bothEnds_175 : decode b_M_bothEnds 175 = .ok (.iinc 1 1, 3) := by decide +kernel
theorem d_M_bothEnds_178 : decode b_M_bothEnds 178 = .ok (.goto (-176), 3) := by decide +kernel
theorem d_M_bothEnds_181 : decode b_M_bothEnds 181 = .ok (.aload_n 0, 1) := by decide +kernel
theorem d_M_bothEnds_182 : decode b_M_bothEnds 182 = .ok (.getfield 93, 3) := by decide +kernel
theorem d_M_bothEnds_185 : decode b_M_bothEnds 185 = .ok (.iconst 1, 1) := by decide +kernel
theorem d_M_bothEnds_186 : decode b_M_bothEnds 186 = .ok (.isub, 1) := by decide +kernel
theorem d_M_bothEnds_187 : decode b_M_bothEnds 187 = .ok (.istore_n 1, 1) := by decide +kernel
theorem d_M_bothEnds_188 : decode b_M_bothEnds 188 = .ok (.iload_n 1, 1) := by decide +kernel
theorem d_M_bothEnds_189 : decode b_M_bothEnds 189 = .ok (.ifCond .lt 186, 3) := by decide +kernel
theorem d_M_bothEnds_192 : decode b_M_bothEnds 192 = .ok (.iconst 0, 1) := by decide +kernel
theorem d_M_bothEnds_193 : decode b_M_bothEnds 193 = .ok (.istore_n 2, 1) := by decide +kernel
theorem d_M_bothEnds_194 : decode b_M_bothEnds 194 = .ok (.iload_n 2, 1) := by decide +kernel
theorem d_M_bothEnds_195 : decode b_M_bothEnds 195 = .ok (.aload_n 0, 1) := by decide +kernel
theorem d_M_bothEnds_196 : decode b_M_bothEnds 196 = .ok (.getfield 89, 3) := by decide +kernel
theorem d_M_bothEnds_199 : decode b_M_bothEnds 199 = .ok (.if_icmp .ge 170, 3) := by decide +kernel
theorem d_M_bothEnds_202 : decode b_M_bothEnds 202 = .ok (.iload_n 1, 1) := by decide +kernel
theorem d_M_bothEnds_203 : decode b_M_bothEnds 203 = .ok (.aload_n 0, 1) := by decide +kernel
theorem d_M_bothEnds_204 : decode b_M_bothEnds 204 = .ok (.getfield 93, 3) := by decide +kernel
theorem d_M_bothEnds_207 : decode b_M_bothEnds 207 = .ok (.iconst 1, 1) := by decide +kernel
theorem d_M_bothEnds_208 : decode b_M_bothEnds 208 = .ok (.isub, 1) := by decide +kernel
theorem d_M_bothEnds_209 : decode b_M_bothEnds 209 = .ok (.if_icmp .ne 7, 3) := by decide +kernel
theorem d_M_bothEnds_212 : decode b_M_bothEnds 212 = .ok (.iconst 0, 1) := by decide +kernel
theorem d_M_bothEnds_213 : decode b_M_bothEnds 213 = .ok (.goto 5, 3) := by decide +kernel
theorem d_M_bothEnds_216 : decode b_M_bothEnds 216 = .ok (.ldc 128, 2) := by decide +kernel
theorem d_M_bothEnds_218 : decode b_M_bothEnds 218 = .ok (.istore_n 3, 1) := by decide +kernel
theorem d_M_bothEnds_219 : decode b_M_bothEnds 219 = .ok (.iconst 0, 1) := by decide +kernel
theorem d_M_bothEnds_220 : decode b_M_bothEnds 220 = .ok (.istore 4, 2) := by decide +kernel
theorem d_M_bothEnds_222 : decode b_M_bothEnds 222 = .ok (.iload 4, 2) := by decide +kernel
theorem d_M_bothEnds_224 : decode b_M_bothEnds 224 = .ok (.aload_n 0, 1) := by decide +kernel
theorem d_M_bothEnds_225 : decode b_M_bothEnds 225 = .ok (.getfield 89, 3) := by decide +kernel
theorem d_M_bothEnds_228 : decode b_M_bothEnds 228 = .ok (.if_icmp .ge 85, 3) := by decide +kernel
theorem d_M_bothEnds_231 : decode b_M_bothEnds 231 = .ok (.iload_n 1, 1) := by decide +kernel
theorem d_M_bothEnds_232 : decode b_M_bothEnds 232 = .ok (.aload_n 0, 1) := by decide +kernel
theorem d_M_bothEnds_233 : decode b_M_bothEnds 233 = .ok (.getfield 93, 3) := by decide +kernel
theorem d_M_bothEnds_236 : decode b_M_bothEnds 236 = .ok (.iconst 1, 1) := by decide +kernel
theorem d_M_bothEnds_237 : decode b_M_bothEnds 237 = .ok (.isub, 1) := by decide +kernel
theorem d_M_bothEnds_238 : decode b_M_bothEnds 238 = .ok (.if_icmp .ge 75, 3) := by decide +kernel
theorem d_M_bothEnds_241 : decode b_M_bothEnds 241 = .ok (.aload_n 0, 1) := by decide +kernel
theorem d_M_bothEnds_242 : decode b_M_bothEnds 242 = .ok (.getfield 83, 3) := by decide +kernel
theorem d_M_bothEnds_245 : decode b_M_bothEnds 245 = .ok (.bipush 12, 2) := by decide +kernel
theorem d_M_bothEnds_247 : decode b_M_bothEnds 247 = .ok (.iload_n 1, 1) := by decide +kernel
theorem d_M_bothEnds_248 : decode b_M_bothEnds 248 = .ok (.iconst 1, 1) := by decide +kernel
theorem d_M_bothEnds_249 : decode b_M_bothEnds 249 = .ok (.iadd, 1) := by decide +kernel
theorem d_M_bothEnds_250 : decode b_M_bothEnds 250 = .ok (.imul, 1) := by decide +kernel
theorem d_M_bothEnds_251 : decode b_M_bothEnds 251 = .ok (.iload 4, 2) := by decide +kernel
theorem d_M_bothEnds_253 : decode b_M_bothEnds 253 = .ok (.iadd, 1) := by decide +kernel
theorem d_M_bothEnds_254 : decode b_M_bothEnds 254 = .ok (.iaload, 1) := by decide +kernel
theorem d_M_bothEnds_255 : decode b_M_bothEnds 255 = .ok (.ldc 128, 2) := by decide +kernel
theorem d_M_bothEnds_257 : decode b_M_bothEnds 257 = .ok (.if_icmp .lt 8, 3) := by decide +kernel
theorem d_M_bothEnds_260 : decode b_M_bothEnds 260 = .ok (.ldc 128, 2) := by decide +kernel
theorem d_M_bothEnds_262 : decode b_M_bothEnds 262 = .ok (.goto 30, 3) := by decide +kernel
theorem d_M_bothEnds_265 : decode b_M_bothEnds 265 = .ok (.aload_n 0, 1) := by decide +kernel
theorem d_M_bothEnds_266 : decode b_M_bothEnds 266 = .ok (.getfield 83, 3) := by decide +kernel
theorem d_M_bothEnds_269 : decode b_M_bothEnds 269 = .ok (.bipush 12, 2) := by decide +kernel
theorem d_M_bothEnds_271 : decode b_M_bothEnds 271 = .ok (.iload_n 1, 1) := by decide +kernel
theorem d_M_bothEnds_272 : decode b_M_bothEnds 272 = .ok (.iconst 1, 1) := by decide +kernel
theorem d_M_bothEnds_273 : decode b_M_bothEnds 273 = .ok (.iadd, 1) := by decide +kernel
theorem d_M_bothEnds_274 : decode b_M_bothEnds 274 = .ok (.imul, 1) := by decide +kernel
theorem d_M_bothEnds_275 : decode b_M_bothEnds 275 = .ok (.iload 4, 2) := by decide +kernel
theorem d_M_bothEnds_277 : decode b_M_bothEnds 277 = .ok (.iadd, 1) := by decide +kernel
theorem d_M_bothEnds_278 : decode b_M_bothEnds 278 = .ok (.iaload, 1) := by decide +kernel
theorem d_M_bothEnds_279 : decode b_M_bothEnds 279 = .ok (.aload_n 0, 1) := by decide +kernel
theorem d_M_bothEnds_280 : decode b_M_bothEnds 280 = .ok (.getfield 7, 3) := by decide +kernel
theorem d_M_bothEnds_283 : decode b_M_bothEnds 283 = .ok (.bipush 12, 2) := by decide +kernel
theorem d_M_bothEnds_285 : decode b_M_bothEnds 285 = .ok (.iload_n 2, 1) := by decide +kernel
theorem d_M_bothEnds_286 : decode b_M_bothEnds 286 = .ok (.imul, 1) := by decide +kernel
theorem d_M_bothEnds_287 : decode b_M_bothEnds 287 = .ok (.iload 4, 2) := by decide +kernel
theorem d_M_bothEnds_289 : decode b_M_bothEnds 289 = .ok (.iadd, 1) := by decide +kernel
theorem d_M_bothEnds_290 : decode b_M_bothEnds 290 = .ok (.iaload, 1) := by decide +kernel
theorem d_M_bothEnds_291 : decode b_M_bothEnds 291 = .ok (.iadd, 1) := by decide +kernel
theorem d_M_bothEnds_292 : decode b_M_bothEnds 292 = .ok (.istore 5, 2) := by decide +kernel
theorem d_M_bothEnds_294 : decode b_M_bothEnds 294 = .ok (.iload 5, 2) := by decide +kernel
theorem d_M_bothEnds_296 : decode b_M_bothEnds 296 = .ok (.iload_n 3, 1) := by decide +kernel
theorem d_M_bothEnds_297 : decode b_M_bothEnds 297 = .ok (.if_icmp .ge 8, 3) := by decide +kernel
theorem d_M_bothEnds_300 : decode b_M_bothEnds 300 = .ok (.iload 5, 2) := by decide +kernel
theorem d_M_bothEnds_302 : decode b_M_bothEnds 302 = .ok (.goto 4, 3) := by decide +kernel
theorem d_M_bothEnds_305 : decode b_M_bothEnds 305 = .ok (.iload_n 3, 1) := by decide +kernel
theorem d_M_bothEnds_306 : decode b_M_bothEnds 306 = .ok (.istore_n 3, 1) := by decide +kernel
theorem d_M_bothEnds_307 : decode b_M_bothEnds 307 = .ok (.iinc 4 1, 3) := by decide +kernel
theorem d_M_bothEnds_310 : decode b_M_bothEnds 310 = .ok (.goto (-88), 3) := by decide +kernel
theorem d_M_bothEnds_313 : decode b_M_bothEnds 313 = .ok (.aload_n 0, 1) := by decide +kernel
theorem d_M_bothEnds_314 : decode b_M_bothEnds 314 = .ok (.getfield 83, 3) := by decide +kernel
theorem d_M_bothEnds_317 : decode b_M_bothEnds 317 = .ok (.bipush 12, 2) := by decide +kernel
theorem d_M_bothEnds_319 : decode b_M_bothEnds 319 = .ok (.iload_n 1, 1) := by decide +kernel
theorem d_M_bothEnds_320 : decode b_M_bothEnds 320 = .ok (.imul, 1) := by decide +kernel
theorem d_M_bothEnds_321 : decode b_M_bothEnds 321 = .ok (.iload_n 2, 1) := by decide +kernel
theorem d_M_bothEnds_322 : decode b_M_bothEnds 322 = .ok (.iadd, 1) := by decide +kernel
theorem d_M_bothEnds_323 : decode b_M_bothEnds 323 = .ok (.iload_n 3, 1) := by decide +kernel
theorem d_M_bothEnds_324 : decode b_M_bothEnds 324 = .ok (.ldc 128, 2) := by decide +kernel
theorem d_M_bothEnds_326 : decode b_M_bothEnds 326 = .ok (.if_icmp .ge 13, 3) := by decide +kernel
theorem d_M_bothEnds_329 : decode b_M_bothEnds 329 = .ok (.aload_n 0, 1) := by decide +kernel
theorem d_M_bothEnds_330 : decode b_M_bothEnds 330 = .ok (.iload_n 1, 1) := by decide +kernel
theorem d_M_bothEnds_331 : decode b_M_bothEnds 331 = .ok (.iload_n 2, 1) := by decide +kernel
theorem d_M_bothEnds_332 : decode b_M_bothEnds 332 = .ok (.iconst (-1), 1) := by decide +kernel
theorem d_M_bothEnds_333 : decode b_M_bothEnds 333 = .ok (.invokevirtual 124, 3) := by decide +kernel
theorem d_M_bothEnds_336 : decode b_M_bothEnds 336 = .ok (.ifCond .ne 8, 3) := by decide +kernel
theorem d_M_bothEnds_339 : decode b_M_bothEnds 339 = .ok (.ldc 128, 2) := by decide +kernel
theorem d_M_bothEnds_341 : decode b_M_bothEnds 341 = .ok (.goto 21, 3) := by decide +kernel
theorem d_M_bothEnds_344 : decode b_M_bothEnds 344 = .ok (.iload_n 3, 1) := by decide +kernel
theorem d_M_bothEnds_345 : decode b_M_bothEnds 345 = .ok (.aload_n 0, 1) := by decide +kernel
theorem d_M_bothEnds_346 : decode b_M_bothEnds 346 = .ok (.getfield 13, 3) := by decide +kernel
theorem d_M_bothEnds_349 : decode b_M_bothEnds 349 = .ok (.bipush 10, 2) := by decide +kernel
theorem d_M_bothEnds_351 : decode b_M_bothEnds 351 = .ok (.iload_n 2, 1) := by decide +kernel
theorem d_M_bothEnds_352 : decode b_M_bothEnds 352 = .ok (.imul, 1) := by decide +kernel
theorem d_M_bothEnds_353 : decode b_M_bothEnds 353 = .ok (.aload_n 0, 1) := by decide +kernel
theorem d_M_bothEnds_354 : decode b_M_bothEnds 354 = .ok (.getfield 26, 3) := by decide +kernel
theorem d_M_bothEnds_357 : decode b_M_bothEnds 357 = .ok (.iload_n 1, 1) := by decide +kernel
theorem d_M_bothEnds_358 : decode b_M_bothEnds 358 = .ok (.iaload, 1) := by decide +kernel
theorem d_M_bothEnds_359 : decode b_M_bothEnds 359 = .ok (.iadd, 1) := by decide +kernel
theorem d_M_bothEnds_360 : decode b_M_bothEnds 360 = .ok (.iaload, 1) := by decide +kernel
theorem d_M_bothEnds_361 : decode b_M_bothEnds 361 = .ok (.iadd, 1) := by decide +kernel
theorem d_M_bothEnds_362 : decode b_M_bothEnds 362 = .ok (.iastore, 1) := by decide +kernel
theorem d_M_bothEnds_363 : decode b_M_bothEnds 363 = .ok (.iinc 2 1, 3) := by decide +kernel
theorem d_M_bothEnds_366 : decode b_M_bothEnds 366 = .ok (.goto (-172), 3) := by decide +kernel
theorem d_M_bothEnds_369 : decode b_M_bothEnds 369 = .ok (.iinc 1 (-1), 3) := by decide +kernel
theorem d_M_bothEnds_372 : decode b_M_bothEnds 372 = .ok (.goto (-184), 3) := by decide +kernel
theorem d_M_bothEnds_375 : decode b_M_bothEnds 375 = .ok (.return_, 1) := by decide +kernel
theorem d_M_fit_0 : decode b_M_fit 0 = .ok (.iload_n 1, 1) := by decide +kernel
theorem d_M_fit_1 : decode b_M_fit 1 = .ok (.iconst 1, 1) := by decide +kernel
theorem d_M_fit_2 : decode b_M_fit 2 = .ok (.if_icmp .lt 16, 3) := by decide +kernel
theorem d_M_fit_5 : decode b_M_fit 5 = .ok (.iload_n 1, 1) := by decide +kernel
theorem d_M_fit_6 : decode b_M_fit 6 = .ok (.bipush 20, 2) := by decide +kernel
theorem d_M_fit_8 : decode b_M_fit 8 = .ok (.if_icmp .gt 10, 3) := by decide +kernel
theorem d_M_fit_11 : decode b_M_fit 11 = .ok (.aload_n 0, 1) := by decide +kernel
theorem d_M_fit_12 : decode b_M_fit 12 = .ok (.getfield 93, 3) := by decide +kernel
theorem d_M_fit_15 : decode b_M_fit 15 = .ok (.ifCond .ne 5, 3) := by decide +kernel
theorem d_M_fit_18 : decode b_M_fit 18 = .ok (.iconst (-1), 1) := by decide +kernel
theorem d_M_fit_19 : decode b_M_fit 19 = .ok (.ireturn, 1) := by decide +kernel
theorem d_M_fit_20 : decode b_M_fit 20 = .ok (.aload_n 0, 1) := by decide +kernel
theorem d_M_fit_21 : decode b_M_fit 21 = .ok (.invokevirtual 145, 3) := by decide +kernel
theorem d_M_fit_24 : decode b_M_fit 24 = .ok (.aload_n 0, 1) := by decide +kernel
theorem d_M_fit_25 : decode b_M_fit 25 = .ok (.iconst 1, 1) := by decide +kernel
theorem d_M_fit_26 : decode b_M_fit 26 = .ok (.putfield 150, 3) := by decide +kernel
theorem d_M_fit_29 : decode b_M_fit 29 = .ok (.aload_n 0, 1) := by decide +kernel
theorem d_M_fit_30 : decode b_M_fit 30 = .ok (.getfield 65, 3) := by decide +kernel
theorem d_M_fit_33 : decode b_M_fit 33 = .ok (.iconst 0, 1) := by decide +kernel
theorem d_M_fit_34 : decode b_M_fit 34 = .ok (.aload_n 0, 1) := by decide +kernel
theorem d_M_fit_35 : decode b_M_fit 35 = .ok (.getfield 136, 3) := by decide +kernel
theorem d_M_fit_38 : decode b_M_fit 38 = .ok (.i2l, 1) := by decide +kernel
theorem d_M_fit_39 : decode b_M_fit 39 = .ok (.lastore, 1) := by decide +kernel
theorem d_M_fit_40 : decode b_M_fit 40 = .ok (.iconst 1, 1) := by decide +kernel
theorem d_M_fit_41 : decode b_M_fit 41 = .ok (.istore_n 2, 1) := by decide +kernel
theorem d_M_fit_42 : decode b_M_fit 42 = .ok (.iconst 0, 1) := by decide +kernel
theorem d_M_fit_43 : decode b_M_fit 43 = .ok (.istore_n 3, 1) := by decide +kernel
theorem d_M_fit_44 : decode b_M_fit 44 = .ok (.iload_n 3, 1) := by decide +kernel
theorem d_M_fit_45 : decode b_M_fit 45 = .ok (.iload_n 1, 1) := by decide +kernel
theorem d_M_fit_46 : decode b_M_fit 46 = .ok (.if_icmp .ge 80, 3) := by decide +kernel
theorem d_M_fit_49 : decode b_M_fit 49 = .ok (.iload_n 2, 1) := by decide +kernel
theorem d_M_fit_50 : decode b_M_fit 50 = .ok (.ifCond .eq 76, 3) := by decide +kernel
theorem d_M_fit_53 : decode b_M_fit 53 = .ok (.aload_n 0, 1) := by decide +kernel
theorem d_M_fit_54 : decode b_M_fit 54 = .ok (.iconst 0, 1) := by decide +kernel
theorem d_M_fit_55 : decode b_M_fit 55 = .ok (.invokevirtual 153, 3) := by decide +kernel
theorem d_M_fit_58 : decode b_M_fit 58 = .ok (.aload_n 0, 1) := by decide +kernel
theorem d_M_fit_59 : decode b_M_fit 59 = .ok (.invokevirtual 157, 3) := by decide +kernel
theorem d_M_fit_62 : decode b_M_fit 62 = .ok (.aload_n 0, 1) := by decide +kernel
theorem d_M_fit_63 : decode b_M_fit 63 = .ok (.iconst (-1), 1) := by decide +kernel
theorem d_M_fit_64 : decode b_M_fit 64 = .ok (.invokevirtual 132, 3) := by decide +kernel
theorem d_M_fit_67 : decode b_M_fit 67 = .ok (.aload_n 0, 1) := by decide +kernel
theorem d_M_fit_68 : decode b_M_fit 68 = .ok (.getfield 136, 3) := by decide +kernel
theorem d_M_fit_71 : decode b_M_fit 71 = .ok (.if_icmp .ge 7, 3) := by decide +kernel
theorem d_M_fit_74 : decode b_M_fit 74 = .ok (.iconst 1, 1) := by decide +kernel
theorem d_M_fit_75 : decode b_M_fit 75 = .ok (.goto 4, 3) := by decide +kernel
theorem d_M_fit_78 : decode b_M_fit 78 = .ok (.iconst 0, 1) := by decide +kernel
theorem d_M_fit_79 : decode b_M_fit 79 = .ok (.istore_n 2, 1) := by decide +kernel
theorem d_M_fit_80 : decode b_M_fit 80 = .ok (.iload_n 2, 1) := by decide +kernel
theorem d_M_fit_81 : decode b_M_fit 81 = .ok (.ifCond .eq 34, 3) := by decide +kernel
theorem d_M_fit_84 : decode b_M_fit 84 = .ok (.aload_n 0, 1) := by decide +kernel
theorem d_M_fit_85 : decode b_M_fit 85 = .ok (.invokevirtual 145, 3) := by decide +kernel
theorem d_M_fit_88 : decode b_M_fit 88 = .ok (.aload_n 0, 1) := by decide +kernel
theorem d_M_fit_89 : decode b_M_fit 89 = .ok (.getfield 65, 3) := by decide +kernel
theorem d_M_fit_92 : decode b_M_fit 92 = .ok (.aload_n 0, 1) := by decide +kernel
theorem d_M_fit_93 : decode b_M_fit 93 = .ok (.getfield 150, 3) := by decide +kernel
theorem d_M_fit_96 : decode b_M_fit 96 = .ok (.aload_n 0, 1) := by decide +kernel
theorem d_M_fit_97 : decode b_M_fit 97 = .ok (.getfield 136, 3) := by decide +kernel
theorem d_M_fit_100 : decode b_M_fit 100 = .ok (.i2l, 1) := by decide +kernel
theorem d_M_fit_101 : decode b_M_fit 101 = .ok (.lastore, 1) := by decide +kernel
theorem d_M_fit_102 : decode b_M_fit 102 = .ok (.aload_n 0, 1) := by decide +kernel
theorem d_M_fit_103 : decode b_M_fit 103 = .ok (.dup, 1) := by decide +kernel
theorem d_M_fit_104 : decode b_M_fit 104 = .ok (.getfield 150, 3) := by decide +kernel
theorem d_M_fit_107 : decode b_M_fit 107 = .ok (.iconst 1, 1) := by decide +kernel
theorem d_M_fit_108 : decode b_M_fit 108 = .ok (.iadd, 1) := by decide +kernel
theorem d_M_fit_109 : decode b_M_fit 109 = .ok (.putfield 150, 3) := by decide +kernel
theorem d_M_fit_112 : decode b_M_fit 112 = .ok (.goto 8, 3) := by decide +kernel
theorem d_M_fit_115 : decode b_M_fit 115 = .ok (.aload_n 0, 1) := by decide +kernel
theorem d_M_fit_116 : decode b_M_fit 116 = .ok (.iconst 1, 1) := by decide +kernel
theorem d_M_fit_117 : decode b_M_fit 117 = .ok (.invokevirtual 153, 3) := by decide +kernel
theorem d_M_fit_120 : decode b_M_fit 120 = .ok (.iinc 3 1, 3) := by decide +kernel
theorem d_M_fit_123 : decode b_M_fit 123 = .ok (.goto (-79), 3) := by decide +kernel
theorem d_M_fit_126 : decode b_M_fit 126 = .ok (.aload_n 0, 1) := by decide +kernel
theorem d_M_fit_127 : decode b_M_fit 127 = .ok (.getfield 150, 3) := by decide +kernel
theorem d_M_fit_130 : decode b_M_fit 130 = .ok (.iconst 1, 1) := by decide +kernel
theorem d_M_fit_131 : decode b_M_fit 131 = .ok (.isub, 1) := by decide +kernel
theorem d_M_fit_132 : decode b_M_fit 132 = .ok (.ireturn, 1) := by decide +kernel
theorem d_M_save_0 : decode b_M_save 0 = .ok (.iconst 0, 1) := by decide +kernel
theorem d_M_save_1 : decode b_M_save 1 = .ok (.istore_n 2, 1) := by decide +kernel
theorem d_M_save_2 : decode b_M_save 2 = .ok (.iload_n 2, 1) := by decide +kernel
theorem d_M_save_3 : decode b_M_save 3 = .ok (.sipush 144, 3) := by decide +kernel
theorem d_M_save_6 : decode b_M_save 6 = .ok (.if_icmp .ge 46, 3) := by decide +kernel
theorem d_M_save_9 : decode b_M_save 9 = .ok (.aload_n 0, 1) := by decide +kernel
theorem d_M_save_10 : decode b_M_save 10 = .ok (.getfield 7, 3) := by decide +kernel
theorem d_M_save_13 : decode b_M_save 13 = .ok (.iload_n 2, 1) := by decide +kernel
theorem d_M_save_14 : decode b_M_save 14 = .ok (.iload_n 1, 1) := by decide +kernel
theorem d_M_save_15 : decode b_M_save 15 = .ok (.ifCond .eq 12, 3) := by decide +kernel
theorem d_M_save_18 : decode b_M_save 18 = .ok (.aload_n 0, 1) := by decide +kernel
theorem d_M_save_19 : decode b_M_save 19 = .ok (.getfield 16, 3) := by decide +kernel
theorem d_M_save_22 : decode b_M_save 22 = .ok (.iload_n 2, 1) := by decide +kernel
theorem d_M_save_23 : decode b_M_save 23 = .ok (.iaload, 1) := by decide +kernel
theorem d_M_save_24 : decode b_M_save 24 = .ok (.goto 9, 3) := by decide +kernel
theorem d_M_save_27 : decode b_M_save 27 = .ok (.aload_n 0, 1) := by decide +kernel
theorem d_M_save_28 : decode b_M_save 28 = .ok (.getfield 7, 3) := by decide +kernel
theorem d_M_save_31 : decode b_M_save 31 = .ok (.iload_n 2, 1) := by decide +kernel
theorem d_M_save_32 : decode b_M_save 32 = .ok (.iaload, 1) := by decide +kernel
theorem d_M_save_33 : decode b_M_save 33 = .ok (.iastore, 1) := by decide +kernel
theorem d_M_save_34 : decode b_M_save 34 = .ok (.aload_n 0, 1) := by decide +kernel
theorem d_M_save_35 : decode b_M_save 35 = .ok (.getfield 16, 3) := by decide +kernel
theorem d_M_save_38 : decode b_M_save 38 = .ok (.iload_n 2, 1) := by decide +kernel
theorem d_M_save_39 : decode b_M_save 39 = .ok (.aload_n 0, 1) := by decide +kernel
theorem d_M_save_40 : decode b_M_save 40 = .ok (.getfield 7, 3) := by decide +kernel
theorem d_M_save_43 : decode b_M_save 43 = .ok (.iload_n 2, 1) := by decide +kernel
theorem d_M_save_44 : decode b_M_save 44 = .ok (.iaload, 1) := by decide +kernel
theorem d_M_save_45 : decode b_M_save 45 = .ok (.iastore, 1) := by decide +kernel
theorem d_M_save_46 : decode b_M_save 46 = .ok (.iinc 2 1, 3) := by decide +kernel
theorem d_M_save_49 : decode b_M_save 49 = .ok (.goto (-47), 3) := by decide +kernel
theorem d_M_save_52 : decode b_M_save 52 = .ok (.iconst 0, 1) := by decide +kernel
theorem d_M_save_53 : decode b_M_save 53 = .ok (.istore_n 2, 1) := by decide +kernel
theorem d_M_save_54 : decode b_M_save 54 = .ok (.iload_n 2, 1) := by decide +kernel
theorem d_M_save_55 : decode b_M_save 55 = .ok (.bipush 120, 2) := by decide +kernel
theorem d_M_save_57 : decode b_M_save 57 = .ok (.if_icmp .ge 46, 3) := by decide +kernel
theorem d_M_save_60 : decode b_M_save 60 = .ok (.aload_n 0, 1) := by decide +kernel
theorem d_M_save_61 : decode b_M_save 61 = .ok (.getfield 13, 3) := by decide +kernel
theorem d_M_save_64 : decode b_M_save 64 = .ok (.iload_n 2, 1) := by decide +kernel
theorem d_M_save_65 : decode b_M_save 65 = .ok (.iload_n 1, 1) := by decide +kernel
theorem d_M_save_66 : decode b_M_save 66 = .ok (.ifCond .eq 12, 3) := by decide +kernel
theorem d_M_save_69 : decode b_M_save 69 = .ok (.aload_n 0, 1) := by decide +kernel
theorem d_M_save_70 : decode b_M_save 70 = .ok (.getfield 19, 3) := by decide +kernel
theorem d_M_save_73 : decode b_M_save 73 = .ok (.iload_n 2, 1) := by decide +kernel
theorem d_M_save_74 : decode b_M_save 74 = .ok (.iaload, 1) := by decide +kernel
theorem d_M_save_75 : decode b_M_save 75 = .ok (.goto 9, 3) := by decide +kernel
theorem d_M_save_78 : decode b_M_save 78 = .ok (.aload_n 0, 1) := by decide +kernel
theorem d_M_save_79 : decode b_M_save 79 = .ok (.getfield 13, 3) := by decide +kernel
theorem d_M_save_82 : decode b_M_save 82 = .ok (.iload_n 2, 1) := by decide +kernel
theorem d_M_save_83 : decode b_M_save 83 = .ok (.iaload, 1) := by decide +kernel
theorem d_M_save_84 : decode b_M_save 84 = .ok (.iastore, 1) := by decide +kernel
theorem d_M_save_85 : decode b_M_save 85 = .ok (.aload_n 0, 1) := by decide +kernel
theorem d_M_save_86 : decode b_M_save 86 = .ok (.getfield 19, 3) := by decide +kernel
theorem d_M_save_89 : decode b_M_save 89 = .ok (.iload_n 2, 1) := by decide +kernel
theorem d_M_save_90 : decode b_M_save 90 = .ok (.aload_n 0, 1) := by decide +kernel
theorem d_M_save_91 : decode b_M_save 91 = .ok (.getfield 13, 3) := by decide +kernel
theorem d_M_save_94 : decode b_M_save 94 = .ok (.iload_n 2, 1) := by decide +kernel
theorem d_M_save_95 : decode b_M_save 95 = .ok (.iaload, 1) := by decide +kernel
theorem d_M_save_96 : decode b_M_save 96 = .ok (.iastore, 1) := by decide +kernel
theorem d_M_save_97 : decode b_M_save 97 = .ok (.iinc 2 1, 3) := by decide +kernel
theorem d_M_save_100 : decode b_M_save 100 = .ok (.goto (-46), 3) := by decide +kernel
theorem d_M_save_103 : decode b_M_save 103 = .ok (.return_, 1) := by decide +kernel
theorem d_M_count_0 : decode b_M_count 0 = .ok (.iconst 0, 1) := by decide +kernel
theorem d_M_count_1 : decode b_M_count 1 = .ok (.istore_n 1, 1) := by decide +kernel
theorem d_M_count_2 : decode b_M_count 2 = .ok (.iload_n 1, 1) := by decide +kernel
theorem d_M_count_3 : decode b_M_count 3 = .ok (.aload_n 0, 1) := by decide +kernel
theorem d_M_count_4 : decode b_M_count 4 = .ok (.getfield 89, 3) := by decide +kernel
theorem d_M_count_7 : decode b_M_count 7 = .ok (.if_icmp .ge 284, 3) := by decide +kernel
theorem d_M_count_10 : decode b_M_count 10 = .ok (.lconst 0, 1) := by decide +kernel
theorem d_M_count_11 : decode b_M_count 11 = .ok (.lstore_n 2, 1) := by decide +kernel
theorem d_M_count_12 : decode b_M_count 12 = .ok (.iconst 0, 1) := by decide +kernel
theorem d_M_count_13 : decode b_M_count 13 = .ok (.istore 4, 2) := by decide +kernel
theorem d_M_count_15 : decode b_M_count 15 = .ok (.iload 4, 2) := by decide +kernel
theorem d_M_count_17 : decode b_M_count 17 = .ok (.iconst 1, 1) := by decide +kernel
theorem d_M_count_18 : decode b_M_count 18 = .ok (.iadd, 1) := by decide +kernel
theorem d_M_count_19 : decode b_M_count 19 = .ok (.aload_n 0, 1) := by decide +kernel
theorem d_M_count_20 : decode b_M_count 20 = .ok (.getfield 93, 3) := by decide +kernel
theorem d_M_count_23 : decode b_M_count 23 = .ok (.if_icmp .ge 28, 3) := by decide +kernel
theorem d_M_count_26 : decode b_M_count 26 = .ok (.lload_n 2, 1) := by decide +kernel
theorem d_M_count_27 : decode b_M_count 27 = .ok (.aload_n 0, 1) := by decide +kernel
theorem d_M_count_28 : decode b_M_count 28 = .ok (.getfield 59, 3) := by decide +kernel
theorem d_M_count_31 : decode b_M_count 31 = .ok (.iload 4, 2) := by decide +kernel
theorem d_M_count_33 : decode b_M_count 33 = .ok (.iaload, 1) := by decide +kernel
theorem d_M_count_34 : decode b_M_count 34 = .ok (.iload_n 1, 1) := by decide +kernel
theorem d_M_count_35 : decode b_M_count 35 = .ok (.if_icmp .ne 7, 3) := by decide +kernel
theorem d_M_count_38 : decode b_M_count 38 = .ok (.lconst 1, 1) := by decide +kernel
theorem d_M_count_39 : decode b_M_count 39 = .ok (.goto 4, 3) := by decide +kernel
theorem d_M_count_42 : decode b_M_count 42 = .ok (.lconst 0, 1) := by decide +kernel
theorem d_M_count_43 : decode b_M_count 43 = .ok (.ladd, 1) := by decide +kernel
theorem d_M_count_44 : decode b_M_count 44 = .ok (.lstore_n 2, 1) := by decide +kernel
theorem d_M_count_45 : decode b_M_count 45 = .ok (.iinc 4 1, 3) := by decide +kernel
theorem d_M_count_48 : decode b_M_count 48 = .ok (.goto (-33), 3) := by decide +kernel
theorem d_M_count_51 : decode b_M_count 51 = .ok (.iconst 0, 1) := by decide +kernel
theorem d_M_count_52 : decode b_M_count 52 = .ok (.istore 4, 2) := by decide +kernel
theorem d_M_count_54 : decode b_M_count 54 = .ok (.iload 4, 2) := by decide +kernel
theorem d_M_count_56 : decode b_M_count 56 = .ok (.aload_n 0, 1) := by decide +kernel
theorem d_M_count_57 : decode b_M_count 57 = .ok (.getfield 89, 3) := by decide +kernel
theorem d_M_count_60 : decode b_M_count 60 = .ok (.if_icmp .ge 96, 3) := by decide +kernel
theorem d_M_count_63 : decode b_M_count 63 = .ok (.lload_n 2, 1) := by decide +kernel
theorem d_M_count_64 : decode b_M_count 64 = .ok (.lconst 0, 1) := by decide +kernel
theorem d_M_count_65 : decode b_M_count 65 = .ok (.lcmp, 1) := by decide +kernel
theorem d_M_count_66 : decode b_M_count 66 = .ok (.ifCond .le 90, 3) := by decide +kernel
theorem d_M_count_69 : decode b_M_count 69 = .ok (.lconst 0, 1) := by decide +kernel
theorem d_M_count_70 : decode b_M_count 70 = .ok (.lstore 5, 2) := by decide +kernel
theorem d_M_count_72 : decode b_M_count 72 = .ok (.iconst 0, 1) := by decide +kernel
theorem d_M_count_73 : decode b_M_count 73 = .ok (.istore 7, 2) := by decide +kernel
theorem d_M_count_75 : decode b_M_count 75 = .ok (.iload 7, 2) := by decide +kernel
theorem d_M_count_77 : decode b_M_count 77 = .ok (.iconst 1, 1) := by decide +kernel
theorem d_M_count_78 : decode b_M_count 78 = .ok (.iadd, 1) := by decide +kernel
theorem d_M_count_79 : decode b_M_count 79 = .ok (.aload_n 0, 1) := by decide +kernel
theorem d_M_count_80 : decode b_M_count 80 = .ok (.getfield 93, 3) := by decide +kernel
theorem d_M_count_83 : decode b_M_count 83 = .ok (.if_icmp .ge 44, 3) := by decide +kernel
theorem d_M_count_86 : decode b_M_count 86 = .ok (.lload 5, 2) := by decide +kernel
theorem d_M_count_88 : decode b_M_count 88 = .ok (.aload_n 0, 1) := by decide +kernel
theorem d_M_count_89 : decode b_M_count 89 = .ok (.getfield 59, 3) := by decide +kernel
theorem d_M_count_92 : decode b_M_count 92 = .ok (.iload 7, 2) := by decide +kernel
theorem d_M_count_94 : decode b_M_count 94 = .ok (.iaload, 1) := by decide +kernel
theorem d_M_count_95 : decode b_M_count 95 = .ok (.iload_n 1, 1) := by decide +kernel
theorem d_M_count_96 : decode b_M_count 96 = .ok (.if_icmp .ne 21, 3) := by decide +kernel
theorem d_M_count_99 : decode b_M_count 99 = .ok (.aload_n 0, 1) := by decide +kernel
theorem d_M_count_100 : decode b_M_count 100 = .ok (.getfield 59, 3) := by decide +kernel
theorem d_M_count_103 : decode b_M_count 103 = .ok (.iload 7, 2) := by decide +kernel
theorem d_M_count_105 : decode b_M_count 105 = .ok (.iconst 1, 1) := by decide +kernel
theorem d_M_count_106 : decode b_M_count 106 = .ok (.iadd, 1) := by decide +kernel
theorem d_M_count_107 : decode b_M_count 107 = .ok (.iaload, 1) := by decide +kernel
theorem d_M_count_108 : decode b_M_count 108 = .ok (.iload 4, 2) := by decide +kernel
theorem d_M_count_110 : decode b_M_count 110 = .ok (.if_icmp .ne 7, 3) := by decide +kernel
theorem d_M_count_113 : decode b_M_count 113 = .ok (.lconst 1, 1) := by decide +kernel
theorem d_M_count_114 : decode b_M_count 114 = .ok (.goto 4, 3) := by decide +kernel
theorem d_M_count_117 : decode b_M_count 117 = .ok (.lconst 0, 1) := by decide +kernel
theorem d_M_count_118 : decode b_M_count 118 = .ok (.ladd, 1) := by decide +kernel
theorem d_M_count_119 : decode b_M_count 119 = .ok (.lstore 5, 2) := by decide +kernel
theorem d_M_count_121 : decode b_M_count 121 = .ok (.iinc 7 1, 3) := by decide +kernel
theorem d_M_count_124 : decode b_M_count 124 = .ok (.goto (-49), 3) := by decide +kernel
theorem d_M_count_127 : decode b_M_count 127 = .ok (.aload_n 0, 1) := by decide +kernel
theorem d_M_count_128 : decode b_M_count 128 = .ok (.getfield 7, 3) := by decide +kernel
theorem d_M_count_131 : decode b_M_count 131 = .ok (.bipush 12, 2) := by decide +kernel
theorem d_M_count_133 : decode b_M_count 133 = .ok (.iload_n 1, 1) := by decide +kernel
theorem d_M_count_134 : decode b_M_count 134 = .ok (.imul, 1) := by decide +kernel
theorem d_M_count_135 : decode b_M_count 135 = .ok (.iload 4, 2) := by decide +kernel
theorem d_M_count_137 : decode b_M_count 137 = .ok (.iadd, 1) := by decide +kernel
theorem d_M_count_138 : decode b_M_count 138 = .ok (.ldc2_w 148, 3) := by decide +kernel
theorem d_M_count_141 : decode b_M_count 141 = .ok (.lload_n 2, 1) := by decide +kernel
theorem d_M_count_142 : decode b_M_count 142 = .ok (.lload 5, 2) := by decide +kernel
theorem d_M_count_144 : decode b_M_count 144 = .ok (.lsub, 1) := by decide +kernel
theorem d_M_count_145 : decode b_M_count 145 = .ok (.lmul, 1) := by decide +kernel
theorem d_M_count_146 : decode b_M_count 146 = .ok (.lload_n 2, 1) := by decide +kernel
theorem d_M_count_147 : decode b_M_count 147 = .ok (.ldiv, 1) := by decide +kernel
theorem d_M_count_148 : decode b_M_count 148 = .ok (.l2i, 1) := by decide +kernel
theorem d_M_count_149 : decode b_M_count 149 = .ok (.iastore, 1) := by decide +kernel
theorem d_M_count_150 : decode b_M_count 150 = .ok (.iinc 4 1, 3) := by decide +kernel
theorem d_M_count_153 : decode b_M_count 153 = .ok (.goto (-99), 3) := by decide +kernel
theorem d_M_count_156 : decode b_M_count 156 = .ok (.lload_n 2, 1) := by decide +kernel
theorem d_M_count_157 : decode b_M_count 157 = .ok (.aload_n 0, 1) := by decide +kernel
theorem d_M_count_158 : decode b_M_count 158 = .ok (.getfield 93, 3) := by decide +kernel
theorem d_M_count_161 : decode b_M_count 161 = .ok (.ifCond .le 22, 3) := by decide +kernel
theorem d_M_count_164 : decode b_M_count 164 = .ok (.aload_n 0, 1) := by decide +kernel
theorem d_M_count_165 : decode b_M_count 165 = .ok (.getfield 59, 3) := by decide +kernel
theorem d_M_count_168 : decode b_M_count 168 = .ok (.aload_n 0, 1) := by decide +kernel
theorem d_M_count_169 : decode b_M_count 169 = .ok (.getfield 93, 3) := by decide +kernel
theorem d_M_count_172 : decode b_M_count 172 = .ok (.iconst 1, 1) := by decide +kernel
theorem d_M_count_173 : decode b_M_count 173 = .ok (.isub, 1) := by decide +kernel
theorem d_M_count_174 : decode b_M_count 174 = .ok (.iaload, 1) := by decide +kernel
theorem d_M_count_175 : decode b_M_count 175 = .ok (.iload_n 1, 1) := by decide +kernel
theorem d_M_count_176 : decode b_M_count 176 = .ok (.if_icmp .ne 7, 3) := by decide +kernel
theorem d_M_count_179 : decode b_M_count 179 = .ok (.lconst 1, 1) := by decide +kernel
theorem d_M_count_180 : decode b_M_count 180 = .ok (.goto 4, 3) := by decide +kernel
theorem d_M_count_183 : decode b_M_count 183 = .ok (.lconst 0, 1) := by decide +kernel
theorem d_M_count_184 : decode b_M_count 184 = .ok (.ladd, 1) := by decide +kernel
theorem d_M_count_185 : decode b_M_count 185 = .ok (.lstore_n 2, 1) := by decide +kernel
theorem d_M_count_186 : decode b_M_count 186 = .ok (.iconst 0, 1) := by decide +kernel
theorem d_M_count_187 : decode b_M_count 187 = .ok (.istore 4, 2) := by decide +kernel
theorem d_M_count_189 : decode b_M_count 189 = .ok (.iload 4, 2) := by decide +kernel
theorem d_M_count_191 : decode b_M_count 191 = .ok (.bipush 10, 2) := by decide +kernel
theorem d_M_count_193 : decode b_M_count 193 = .ok (.if_icmp .ge 92, 3) := by decide +kernel
theorem d_M_count_196 : decode b_M_count 196 = .ok (.lload_n 2, 1) := by decide +kernel
theorem d_M_count_197 : decode b_M_count 197 = .ok (.lconst 0, 1) := by decide +kernel
theorem d_M_count_198 : decode b_M_count 198 = .ok (.lcmp, 1) := by decide +kernel
theorem d_M_count_199 : decode b_M_count 199 = .ok (.ifCond .le 86, 3) := by decide +kernel
theorem d_M_count_202 : decode b_M_count 202 = .ok (.lconst 0, 1) := by decide +kernel
theorem d_M_count_203 : decode b_M_count 203 = .ok (.lstore 5, 2) := by decide +kernel
theorem d_M_count_205 : decode b_M_count 205 = .ok (.iconst 0, 1) := by decide +kernel
theorem d_M_count_206 : decode b_M_count 206 = .ok (.istore 7, 2) := by decide +kernel
theorem d_M_count_208 : decode b_M_count 208 = .ok (.iload 7, 2) := by decide +kernel
theorem d_M_count_210 : decode b_M_count 210 = .ok (.aload_n 0, 1) := by decide +kernel
theorem d_M_count_211 : decode b_M_count 211 = .ok (.getfield 93, 3) := by decide +kernel
theorem d_M_count_214 : decode b_M_count 214 = .ok (.if_icmp .ge 42, 3) := by decide +kernel
theorem d_M_count_217 : decode b_M_count 217 = .ok (.lload 5, 2) := by decide +kernel
theorem d_M_count_219 : decode b_M_count 219 = .ok (.aload_n 0, 1) := by decide +kernel
theorem d_M_count_220 : decode b_M_count 220 = .ok (.getfield 59, 3) := by decide +kernel
theorem d_M_count_223 : decode b_M_count 223 = .ok (.iload 7, 2) := by decide +kernel
theorem d_M_count_225 : decode b_M_count 225 = .ok (.iaload, 1) := by decide +kernel
theorem d_M_count_226 : decode b_M_count 226 = .ok (.iload_n 1, 1) := by decide +kernel
theorem d_M_count_227 : decode b_M_count 227 = .ok (.if_icmp .ne 19, 3) := by decide +kernel
theorem d_M_count_230 : decode b_M_count 230 = .ok (.aload_n 0, 1) := by decide +kernel
theorem d_M_count_231 : decode b_M_count 231 = .ok (.getfield 26, 3) := by decide +kernel
theorem d_M_count_234 : decode b_M_count 234 = .ok (.iload 7, 2) := by decide +kernel
theorem d_M_count_236 : decode b_M_count 236 = .ok (.iaload, 1) := by decide +kernel
theorem d_M_count_237 : decode b_M_count 237 = .ok (.iload 4, 2) := by decide +kernel
theorem d_M_count_239 : decode b_M_count 239 = .ok (.if_icmp .ne 7, 3) := by decide +kernel
theorem d_M_count_242 : decode b_M_count 242 = .ok (.lconst 1, 1) := by decide +kernel
theorem d_M_count_243 : decode b_M_count 243 = .ok (.goto 4, 3) := by decide +kernel
theorem d_M_count_246 : decode b_M_count 246 = .ok (.lconst 0, 1) := by decide +kernel
theorem d_M_count_247 : decode b_M_count 247 = .ok (.ladd, 1) := by decide +kernel
theorem d_M_count_248 : decode b_M_count 248 = .ok (.lstore 5, 2) := by decide +kernel
theorem d_M_count_250 : decode b_M_count 250 = .ok (.iinc 7 1, 3) := by decide +kernel
theorem d_M_count_253 : decode b_M_count 253 = .ok (.goto (-45), 3) := by decide +kernel
theorem d_M_count_256 : decode b_M_count 256 = .ok (.aload_n 0, 1) := by decide +kernel
theorem d_M_count_257 : decode b_M_count 257 = .ok (.getfield 13, 3) := by decide +kernel
theorem d_M_count_260 : decode b_M_count 260 = .ok (.bipush 10, 2) := by decide +kernel
theorem d_M_count_262 : decode b_M_count 262 = .ok (.iload_n 1, 1) := by decide +kernel
theorem d_M_count_263 : decode b_M_count 263 = .ok (.imul, 1) := by decide +kernel
theorem d_M_count_264 : decode b_M_count 264 = .ok (.iload 4, 2) := by decide +kernel
theorem d_M_count_266 : decode b_M_count 266 = .ok (.iadd, 1) := by decide +kernel
theorem d_M_count_267 : decode b_M_count 267 = .ok (.ldc2_w 148, 3) := by decide +kernel
theorem d_M_count_270 : decode b_M_count 270 = .ok (.lload_n 2, 1) := by decide +kernel
theorem d_M_count_271 : decode b_M_count 271 = .ok (.lload 5, 2) := by decide +kernel
theorem d_M_count_273 : decode b_M_count 273 = .ok (.lsub, 1) := by decide +kernel
theorem d_M_count_274 : decode b_M_count 274 = .ok (.lmul, 1) := by decide +kernel
theorem d_M_count_275 : decode b_M_count 275 = .ok (.lload_n 2, 1) := by decide +kernel
theorem d_M_count_276 : decode b_M_count 276 = .ok (.ldiv, 1) := by decide +kernel
theorem d_M_count_277 : decode b_M_count 277 = .ok (.l2i, 1) := by decide +kernel
theorem d_M_count_278 : decode b_M_count 278 = .ok (.iastore, 1) := by decide +kernel
theorem d_M_count_279 : decode b_M_count 279 = .ok (.iinc 4 1, 3) := by decide +kernel
theorem d_M_count_282 : decode b_M_count 282 = .ok (.goto (-93), 3) := by decide +kernel
theorem d_M_count_285 : decode b_M_count 285 = .ok (.iinc 1 1, 3) := by decide +kernel
theorem d_M_count_288 : decode b_M_count 288 = .ok (.goto (-286), 3) := by decide +kernel
theorem d_M_count_291 : decode b_M_count 291 = .ok (.return_, 1) := by decide +kernel
theorem d_M_sum_0 : decode b_M_sum 0 = .ok (.iload_n 1, 1) := by decide +kernel
theorem d_M_sum_1 : decode b_M_sum 1 = .ok (.ifCond .lt 11, 3) := by decide +kernel
theorem d_M_sum_4 : decode b_M_sum 4 = .ok (.iload_n 1, 1) := by decide +kernel
theorem d_M_sum_5 : decode b_M_sum 5 = .ok (.aload_n 0, 1) := by decide +kernel
theorem d_M_sum_6 : decode b_M_sum 6 = .ok (.getfield 150, 3) := by decide +kernel
theorem d_M_sum_9 : decode b_M_sum 9 = .ok (.if_icmp .lt 9, 3) := by decide +kernel
theorem d_M_sum_12 : decode b_M_sum 12 = .ok (.ldc2_w 160, 3) := by decide +kernel
theorem d_M_sum_15 : decode b_M_sum 15 = .ok (.goto 9, 3) := by decide +kernel
theorem d_M_sum_18 : decode b_M_sum 18 = .ok (.aload_n 0, 1) := by decide +kernel
theorem d_M_sum_19 : decode b_M_sum 19 = .ok (.getfield 65, 3) := by decide +kernel
theorem d_M_sum_22 : decode b_M_sum 22 = .ok (.iload_n 1, 1) := by decide +kernel
theorem d_M_sum_23 : decode b_M_sum 23 = .ok (.laload, 1) := by decide +kernel
theorem d_M_sum_24 : decode b_M_sum 24 = .ok (.lreturn, 1) := by decide +kernel
theorem d_M_leftOut_0 : decode b_M_leftOut 0 = .ok (.iconst 0, 1) := by decide +kernel
theorem d_M_leftOut_1 : decode b_M_leftOut 1 = .ok (.istore_n 2, 1) := by decide +kernel
theorem d_M_leftOut_2 : decode b_M_leftOut 2 = .ok (.iconst 0, 1) := by decide +kernel
theorem d_M_leftOut_3 : decode b_M_leftOut 3 = .ok (.istore_n 3, 1) := by decide +kernel
theorem d_M_leftOut_4 : decode b_M_leftOut 4 = .ok (.iload_n 3, 1) := by decide +kernel
theorem d_M_leftOut_5 : decode b_M_leftOut 5 = .ok (.aload_n 0, 1) := by decide +kernel
theorem d_M_leftOut_6 : decode b_M_leftOut 6 = .ok (.getfield 93, 3) := by decide +kernel
theorem d_M_leftOut_9 : decode b_M_leftOut 9 = .ok (.if_icmp .ge 37, 3) := by decide +kernel
theorem d_M_leftOut_12 : decode b_M_leftOut 12 = .ok (.iload_n 2, 1) := by decide +kernel
theorem d_M_leftOut_13 : decode b_M_leftOut 13 = .ok (.aload_n 0, 1) := by decide +kernel
theorem d_M_leftOut_14 : decode b_M_leftOut 14 = .ok (.getfield 32, 3) := by decide +kernel
theorem d_M_leftOut_17 : decode b_M_leftOut 17 = .ok (.iload_n 3, 1) := by decide +kernel
theorem d_M_leftOut_18 : decode b_M_leftOut 18 = .ok (.iaload, 1) := by decide +kernel
theorem d_M_leftOut_19 : decode b_M_leftOut 19 = .ok (.iload_n 1, 1) := by decide +kernel
theorem d_M_leftOut_20 : decode b_M_leftOut 20 = .ok (.if_icmp .ne 17, 3) := by decide +kernel
theorem d_M_leftOut_23 : decode b_M_leftOut 23 = .ok (.aload_n 0, 1) := by decide +kernel
theorem d_M_leftOut_24 : decode b_M_leftOut 24 = .ok (.getfield 35, 3) := by decide +kernel
theorem d_M_leftOut_27 : decode b_M_leftOut 27 = .ok (.iload_n 3, 1) := by decide +kernel
theorem d_M_leftOut_28 : decode b_M_leftOut 28 = .ok (.iaload, 1) := by decide +kernel
theorem d_M_leftOut_29 : decode b_M_leftOut 29 = .ok (.iconst (-1), 1) := by decide +kernel
theorem d_M_leftOut_30 : decode b_M_leftOut 30 = .ok (.if_icmp .eq 7, 3) := by decide +kernel
theorem d_M_leftOut_33 : decode b_M_leftOut 33 = .ok (.iconst 1, 1) := by decide +kernel
theorem d_M_leftOut_34 : decode b_M_leftOut 34 = .ok (.goto 4, 3) := by decide +kernel
theorem d_M_leftOut_37 : decode b_M_leftOut 37 = .ok (.iconst 0, 1) := by decide +kernel
theorem d_M_leftOut_38 : decode b_M_leftOut 38 = .ok (.iadd, 1) := by decide +kernel
theorem d_M_leftOut_39 : decode b_M_leftOut 39 = .ok (.istore_n 2, 1) := by decide +kernel
theorem d_M_leftOut_40 : decode b_M_leftOut 40 = .ok (.iinc 3 1, 3) := by decide +kernel
theorem d_M_leftOut_43 : decode b_M_leftOut 43 = .ok (.goto (-39), 3) := by decide +kernel
theorem d_M_leftOut_46 : decode b_M_leftOut 46 = .ok (.iload_n 2, 1) := by decide +kernel
theorem d_M_leftOut_47 : decode b_M_leftOut 47 = .ok (.ifCond .ne 5, 3) := by decide +kernel
theorem d_M_leftOut_50 : decode b_M_leftOut 50 = .ok (.iconst (-1), 1) := by decide +kernel
theorem d_M_leftOut_51 : decode b_M_leftOut 51 = .ok (.ireturn, 1) := by decide +kernel
theorem d_M_leftOut_52 : decode b_M_leftOut 52 = .ok (.aload_n 0, 1) := by decide +kernel
theorem d_M_leftOut_53 : decode b_M_leftOut 53 = .ok (.iload_n 1, 1) := by decide +kernel
theorem d_M_leftOut_54 : decode b_M_leftOut 54 = .ok (.invokevirtual 132, 3) := by decide +kernel
theorem d_M_leftOut_57 : decode b_M_leftOut 57 = .ok (.istore_n 3, 1) := by decide +kernel
theorem d_M_leftOut_58 : decode b_M_leftOut 58 = .ok (.iconst 0, 1) := by decide +kernel
theorem d_M_leftOut_59 : decode b_M_leftOut 59 = .ok (.istore 4, 2) := by decide +kernel
theorem d_M_leftOut_61 : decode b_M_leftOut 61 = .ok (.iconst 0, 1) := by decide +kernel
theorem d_M_leftOut_62 : decode b_M_leftOut 62 = .ok (.istore 5, 2) := by decide +kernel
theorem d_M_leftOut_64 : decode b_M_leftOut 64 = .ok (.iload 5, 2) := by decide +kernel
theorem d_M_leftOut_66 : decode b_M_leftOut 66 = .ok (.aload_n 0, 1) := by decide +kernel
theorem d_M_leftOut_67 : decode b_M_leftOut 67 = .ok (.getfield 93, 3) := by decide +kernel
theorem d_M_leftOut_70 : decode b_M_leftOut 70 = .ok (.if_icmp .ge 58, 3) := by decide +kernel
theorem d_M_leftOut_73 : decode b_M_leftOut 73 = .ok (.iload 4, 2) := by decide +kernel
theorem d_M_leftOut_75 : decode b_M_leftOut 75 = .ok (.aload_n 0, 1) := by decide +kernel
theorem d_M_leftOut_76 : decode b_M_leftOut 76 = .ok (.getfield 32, 3) := by decide +kernel
theorem d_M_leftOut_79 : decode b_M_leftOut 79 = .ok (.iload 5, 2) := by decide +kernel
theorem d_M_leftOut_81 : decode b_M_leftOut 81 = .ok (.iaload, 1) := by decide +kernel
theorem d_M_leftOut_82 : decode b_M_leftOut 82 = .ok (.iload_n 1, 1) := by decide +kernel
theorem d_M_leftOut_83 : decode b_M_leftOut 83 = .ok (.if_icmp .ne 35, 3) := by decide +kernel
theorem d_M_leftOut_86 : decode b_M_leftOut 86 = .ok (.aload_n 0, 1) := by decide +kernel
theorem d_M_leftOut_87 : decode b_M_leftOut 87 = .ok (.getfield 35, 3) := by decide +kernel
theorem d_M_leftOut_90 : decode b_M_leftOut 90 = .ok (.iload 5, 2) := by decide +kernel
theorem d_M_leftOut_92 : decode b_M_leftOut 92 = .ok (.iaload, 1) := by decide +kernel
theorem d_M_leftOut_93 : decode b_M_leftOut 93 = .ok (.iconst (-1), 1) := by decide +kernel
theorem d_M_leftOut_94 : decode b_M_leftOut 94 = .ok (.if_icmp .eq 24, 3) := by decide +kernel
theorem d_M_leftOut_97 : decode b_M_leftOut 97 = .ok (.aload_n 0, 1) := by decide +kernel
theorem d_M_leftOut_98 : decode b_M_leftOut 98 = .ok (.getfield 35, 3) := by decide +kernel
theorem d_M_leftOut_101 : decode b_M_leftOut 101 = .ok (.iload 5, 2) := by decide +kernel
theorem d_M_leftOut_103 : decode b_M_leftOut 103 = .ok (.iaload, 1) := by decide +kernel
theorem d_M_leftOut_104 : decode b_M_leftOut 104 = .ok (.aload_n 0, 1) := by decide +kernel
theorem d_M_leftOut_105 : decode b_M_leftOut 105 = .ok (.getfield 86, 3) := by decide +kernel
theorem d_M_leftOut_108 : decode b_M_leftOut 108 = .ok (.iload 5, 2) := by decide +kernel
theorem d_M_leftOut_110 : decode b_M_leftOut 110 = .ok (.iaload, 1) := by decide +kernel
theorem d_M_leftOut_111 : decode b_M_leftOut 111 = .ok (.if_icmp .eq 7, 3) := by decide +kernel
theorem d_M_leftOut_114 : decode b_M_leftOut 114 = .ok (.iconst 1, 1) := by decide +kernel
theorem d_M_leftOut_115 : decode b_M_leftOut 115 = .ok (.goto 4, 3) := by decide +kernel
theorem d_M_leftOut_118 : decode b_M_leftOut 118 = .ok (.iconst 0, 1) := by decide +kernel
theorem d_M_leftOut_119 : decode b_M_leftOut 119 = .ok (.iadd, 1) := by decide +kernel
theorem d_M_leftOut_120 : decode b_M_leftOut 120 = .ok (.istore 4, 2) := by decide +kernel
theorem d_M_leftOut_122 : decode b_M_leftOut 122 = .ok (.iinc 5 1, 3) := by decide +kernel
theorem d_M_leftOut_125 : decode b_M_leftOut 125 = .ok (.goto (-61), 3) := by decide +kernel
theorem d_M_leftOut_128 : decode b_M_leftOut 128 = .ok (.sipush 1000, 3) := by decide +kernel
theorem d_M_leftOut_131 : decode b_M_leftOut 131 = .ok (.iload 4, 2) := by decide +kernel
theorem d_M_leftOut_133 : decode b_M_leftOut 133 = .ok (.imul, 1) := by decide +kernel
theorem d_M_leftOut_134 : decode b_M_leftOut 134 = .ok (.iload_n 2, 1) := by decide +kernel
theorem d_M_leftOut_135 : decode b_M_leftOut 135 = .ok (.idiv, 1) := by decide +kernel
theorem d_M_leftOut_136 : decode b_M_leftOut 136 = .ok (.ireturn, 1) := by decide +kernel
theorem d_M_act_0 : decode b_M_act 0 = .ok (.aload_n 0, 1) := by decide +kernel
theorem d_M_act_1 : decode b_M_act 1 = .ok (.iload_n 1, 1) := by decide +kernel
theorem d_M_act_2 : decode b_M_act 2 = .ok (.invokevirtual 162, 3) := by decide +kernel
theorem d_M_act_5 : decode b_M_act 5 = .ok (.ifCond .eq 12, 3) := by decide +kernel
theorem d_M_act_8 : decode b_M_act 8 = .ok (.aload_n 0, 1) := by decide +kernel
theorem d_M_act_9 : decode b_M_act 9 = .ok (.getfield 59, 3) := by decide +kernel
theorem d_M_act_12 : decode b_M_act 12 = .ok (.iload_n 1, 1) := by decide +kernel
theorem d_M_act_13 : decode b_M_act 13 = .ok (.iaload, 1) := by decide +kernel
theorem d_M_act_14 : decode b_M_act 14 = .ok (.goto 4, 3) := by decide +kernel
theorem d_M_act_17 : decode b_M_act 17 = .ok (.iconst (-1), 1) := by decide +kernel
theorem d_M_act_18 : decode b_M_act 18 = .ok (.ireturn, 1) := by decide +kernel
theorem d_M_isKnown_0 : decode b_M_isKnown 0 = .ok (.iload_n 1, 1) := by decide +kernel
theorem d_M_isKnown_1 : decode b_M_isKnown 1 = .ok (.ifCond .lt 15, 3) := by decide +kernel
theorem d_M_isKnown_4 : decode b_M_isKnown 4 = .ok (.iload_n 1, 1) := by decide +kernel
theorem d_M_isKnown_5 : decode b_M_isKnown 5 = .ok (.aload_n 0, 1) := by decide +kernel
theorem d_M_isKnown_6 : decode b_M_isKnown 6 = .ok (.getfield 139, 3) := by decide +kernel
theorem d_M_isKnown_9 : decode b_M_isKnown 9 = .ok (.if_icmp .ge 7, 3) := by decide +kernel
theorem d_M_isKnown_12 : decode b_M_isKnown 12 = .ok (.iconst 1, 1) := by decide +kernel
theorem d_M_isKnown_13 : decode b_M_isKnown 13 = .ok (.goto 4, 3) := by decide +kernel
theorem d_M_isKnown_16 : decode b_M_isKnown 16 = .ok (.iconst 0, 1) := by decide +kernel
theorem d_M_isKnown_17 : decode b_M_isKnown 17 = .ok (.ireturn, 1) := by decide +kernel
theorem d_M_greatest_0 : decode b_M_greatest 0 = .ok (.aload_n 0, 1) := by decide +kernel
theorem d_M_greatest_1 : decode b_M_greatest 1 = .ok (.getfield 139, 3) := by decide +kernel
theorem d_M_greatest_4 : decode b_M_greatest 4 = .ok (.ifCond .le 7, 3) := by decide +kernel
theorem d_M_greatest_7 : decode b_M_greatest 7 = .ok (.iconst 1, 1) := by decide +kernel
theorem d_M_greatest_8 : decode b_M_greatest 8 = .ok (.goto 4, 3) := by decide +kernel
theorem d_M_greatest_11 : decode b_M_greatest 11 = .ok (.iconst 0, 1) := by decide +kernel
theorem d_M_greatest_12 : decode b_M_greatest 12 = .ok (.ireturn, 1) := by decide +kernel
theorem d_M_hours_0 : decode b_M_hours 0 = .ok (.aload_n 0, 1) := by decide +kernel
theorem d_M_hours_1 : decode b_M_hours 1 = .ok (.iload_n 1, 1) := by decide +kernel
theorem d_M_hours_2 : decode b_M_hours 2 = .ok (.invokevirtual 96, 3) := by decide +kernel
theorem d_M_hours_5 : decode b_M_hours 5 = .ok (.ifCond .eq 10, 3) := by decide +kernel
theorem d_M_hours_8 : decode b_M_hours 8 = .ok (.aload_n 0, 1) := by decide +kernel
theorem d_M_hours_9 : decode b_M_hours 9 = .ok (.getfield 139, 3) := by decide +kernel
theorem d_M_hours_12 : decode b_M_hours 12 = .ok (.ifCond .ne 7, 3) := by decide +kernel
theorem d_M_hours_15 : decode b_M_hours 15 = .ok (.ldc2_w 160, 3) := by decide +kernel
theorem d_M_hours_18 : decode b_M_hours 18 = .ok (.lreturn, 1) := by decide +kernel
theorem d_M_hours_19 : decode b_M_hours 19 = .ok (.lconst 0, 1) := by decide +kernel
theorem d_M_hours_20 : decode b_M_hours 20 = .ok (.lstore_n 2, 1) := by decide +kernel
theorem d_M_hours_21 : decode b_M_hours 21 = .ok (.iconst 0, 1) := by decide +kernel
theorem d_M_hours_22 : decode b_M_hours 22 = .ok (.istore 4, 2) := by decide +kernel
theorem d_M_hours_24 : decode b_M_hours 24 = .ok (.iload 4, 2) := by decide +kernel
theorem d_M_hours_26 : decode b_M_hours 26 = .ok (.aload_n 0, 1) := by decide +kernel
theorem d_M_hours_27 : decode b_M_hours 27 = .ok (.getfield 139, 3) := by decide +kernel
theorem d_M_hours_30 : decode b_M_hours 30 = .ok (.if_icmp .ge 41, 3) := by decide +kernel
theorem d_M_hours_33 : decode b_M_hours 33 = .ok (.lload_n 2, 1) := by decide +kernel
theorem d_M_hours_34 : decode b_M_hours 34 = .ok (.aload_n 0, 1) := by decide +kernel
theorem d_M_hours_35 : decode b_M_hours 35 = .ok (.getfield 59, 3) := by decide +kernel
theorem d_M_hours_38 : decode b_M_hours 38 = .ok (.iload 4, 2) := by decide +kernel
theorem d_M_hours_40 : decode b_M_hours 40 = .ok (.iaload, 1) := by decide +kernel
theorem d_M_hours_41 : decode b_M_hours 41 = .ok (.iload_n 1, 1) := by decide +kernel
theorem d_M_hours_42 : decode b_M_hours 42 = .ok (.if_icmp .ne 20, 3) := by decide +kernel
theorem d_M_hours_45 : decode b_M_hours 45 = .ok (.aload_n 0, 1) := by decide +kernel
theorem d_M_hours_46 : decode b_M_hours 46 = .ok (.iload 4, 2) := by decide +kernel
theorem d_M_hours_48 : decode b_M_hours 48 = .ok (.invokevirtual 165, 3) := by decide +kernel
theorem d_M_hours_51 : decode b_M_hours 51 = .ok (.aload_n 0, 1) := by decide +kernel
theorem d_M_hours_52 : decode b_M_hours 52 = .ok (.getfield 22, 3) := by decide +kernel
theorem d_M_hours_55 : decode b_M_hours 55 = .ok (.iload 4, 2) := by decide +kernel
theorem d_M_hours_57 : decode b_M_hours 57 = .ok (.laload, 1) := by decide +kernel
theorem d_M_hours_58 : decode b_M_hours 58 = .ok (.lsub, 1) := by decide +kernel
theorem d_M_hours_59 : decode b_M_hours 59 = .ok (.goto 4, 3) := by decide +kernel
theorem d_M_hours_62 : decode b_M_hours 62 = .ok (.lconst 0, 1) := by decide +kernel
theorem d_M_hours_63 : decode b_M_hours 63 = .ok (.ladd, 1) := by decide +kernel
theorem d_M_hours_64 : decode b_M_hours 64 = .ok (.lstore_n 2, 1) := by decide +kernel
theorem d_M_hours_65 : decode b_M_hours 65 = .ok (.iinc 4 1, 3) := by decide +kernel
theorem d_M_hours_68 : decode b_M_hours 68 = .ok (.goto (-44), 3) := by decide +kernel
theorem d_M_hours_71 : decode b_M_hours 71 = .ok (.lload_n 2, 1) := by decide +kernel
theorem d_M_hours_72 : decode b_M_hours 72 = .ok (.lreturn, 1) := by decide +kernel
theorem d_M_end_0 : decode b_M_end 0 = .ok (.aload_n 0, 1) := by decide +kernel
theorem d_M_end_1 : decode b_M_end 1 = .ok (.getfield 22, 3) := by decide +kernel
theorem d_M_end_4 : decode b_M_end 4 = .ok (.iload_n 1, 1) := by decide +kernel
theorem d_M_end_5 : decode b_M_end 5 = .ok (.iconst 1, 1) := by decide +kernel
theorem d_M_end_6 : decode b_M_end 6 = .ok (.iadd, 1) := by decide +kernel
theorem d_M_end_7 : decode b_M_end 7 = .ok (.aload_n 0, 1) := by decide +kernel
theorem d_M_end_8 : decode b_M_end 8 = .ok (.getfield 139, 3) := by decide +kernel
theorem d_M_end_11 : decode b_M_end 11 = .ok (.if_icmp .ge 9, 3) := by decide +kernel
theorem d_M_end_14 : decode b_M_end 14 = .ok (.iload_n 1, 1) := by decide +kernel
theorem d_M_end_15 : decode b_M_end 15 = .ok (.iconst 1, 1) := by decide +kernel
theorem d_M_end_16 : decode b_M_end 16 = .ok (.iadd, 1) := by decide +kernel
theorem d_M_end_17 : decode b_M_end 17 = .ok (.goto 4, 3) := by decide +kernel
theorem d_M_end_20 : decode b_M_end 20 = .ok (.iload_n 1, 1) := by decide +kernel
theorem d_M_end_21 : decode b_M_end 21 = .ok (.laload, 1) := by decide +kernel
theorem d_M_end_22 : decode b_M_end 22 = .ok (.lreturn, 1) := by decide +kernel
theorem d_M_total_0 : decode b_M_total 0 = .ok (.aload_n 0, 1) := by decide +kernel
theorem d_M_total_1 : decode b_M_total 1 = .ok (.getfield 139, 3) := by decide +kernel
theorem d_M_total_4 : decode b_M_total 4 = .ok (.ifCond .ne 9, 3) := by decide +kernel
theorem d_M_total_7 : decode b_M_total 7 = .ok (.ldc2_w 160, 3) := by decide +kernel
theorem d_M_total_10 : decode b_M_total 10 = .ok (.goto 21, 3) := by decide +kernel
theorem d_M_total_13 : decode b_M_total 13 = .ok (.aload_n 0, 1) := by decide +kernel
theorem d_M_total_14 : decode b_M_total 14 = .ok (.getfield 22, 3) := by decide +kernel
theorem d_M_total_17 : decode b_M_total 17 = .ok (.aload_n 0, 1) := by decide +kernel
theorem d_M_total_18 : decode b_M_total 18 = .ok (.getfield 139, 3) := by decide +kernel
theorem d_M_total_21 : decode b_M_total 21 = .ok (.iconst 1, 1) := by decide +kernel
theorem d_M_total_22 : decode b_M_total 22 = .ok (.isub, 1) := by decide +kernel
theorem d_M_total_23 : decode b_M_total 23 = .ok (.laload, 1) := by decide +kernel
theorem d_M_total_24 : decode b_M_total 24 = .ok (.aload_n 0, 1) := by decide +kernel
theorem d_M_total_25 : decode b_M_total 25 = .ok (.getfield 22, 3) := by decide +kernel
theorem d_M_total_28 : decode b_M_total 28 = .ok (.iconst 0, 1) := by decide +kernel
theorem d_M_total_29 : decode b_M_total 29 = .ok (.laload, 1) := by decide +kernel
theorem d_M_total_30 : decode b_M_total 30 = .ok (.lsub, 1) := by decide +kernel
theorem d_M_total_31 : decode b_M_total 31 = .ok (.lreturn, 1) := by decide +kernel
theorem d_M_haul_0 : decode b_M_haul 0 = .ok (.aload_n 0, 1) := by decide +kernel
theorem d_M_haul_1 : decode b_M_haul 1 = .ok (.iload_n 1, 1) := by decide +kernel
theorem d_M_haul_2 : decode b_M_haul 2 = .ok (.invokevirtual 169, 3) := by decide +kernel
theorem d_M_haul_5 : decode b_M_haul 5 = .ok (.istore_n 3, 1) := by decide +kernel
theorem d_M_haul_6 : decode b_M_haul 6 = .ok (.iload_n 3, 1) := by decide +kernel
theorem d_M_haul_7 : decode b_M_haul 7 = .ok (.iconst (-1), 1) := by decide +kernel
theorem d_M_haul_8 : decode b_M_haul 8 = .ok (.if_icmp .eq 12, 3) := by decide +kernel
theorem d_M_haul_11 : decode b_M_haul 11 = .ok (.iload_n 2, 1) := by decide +kernel
theorem d_M_haul_12 : decode b_M_haul 12 = .ok (.ifCond .lt 8, 3) := by decide +kernel
theorem d_M_haul_15 : decode b_M_haul 15 = .ok (.iload_n 2, 1) := by decide +kernel
theorem d_M_haul_16 : decode b_M_haul 16 = .ok (.iconst 1, 1) := by decide +kernel
theorem d_M_haul_17 : decode b_M_haul 17 = .ok (.if_icmp .le 5, 3) := by decide +kernel
theorem d_M_haul_20 : decode b_M_haul 20 = .ok (.iconst (-1), 1) := by decide +kernel
theorem d_M_haul_21 : decode b_M_haul 21 = .ok (.ireturn, 1) := by decide +kernel
theorem d_M_haul_22 : decode b_M_haul 22 = .ok (.iload_n 2, 1) := by decide +kernel
theorem d_M_haul_23 : decode b_M_haul 23 = .ok (.ifCond .ne 12, 3) := by decide +kernel
theorem d_M_haul_26 : decode b_M_haul 26 = .ok (.aload_n 0, 1) := by decide +kernel
theorem d_M_haul_27 : decode b_M_haul 27 = .ok (.getfield 22, 3) := by decide +kernel
theorem d_M_haul_30 : decode b_M_haul 30 = .ok (.iload_n 3, 1) := by decide +kernel
theorem d_M_haul_31 : decode b_M_haul 31 = .ok (.laload, 1) := by decide +kernel
theorem d_M_haul_32 : decode b_M_haul 32 = .ok (.goto 12, 3) := by decide +kernel
theorem d_M_haul_35 : decode b_M_haul 35 = .ok (.aload_n 0, 1) := by decide +kernel
theorem d_M_haul_36 : decode b_M_haul 36 = .ok (.aload_n 0, 1) := by decide +kernel
theorem d_M_haul_37 : decode b_M_haul 37 = .ok (.iload_n 3, 1) := by decide +kernel
theorem d_M_haul_38 : decode b_M_haul 38 = .ok (.invokevirtual 172, 3) := by decide +kernel
theorem d_M_haul_41 : decode b_M_haul 41 = .ok (.invokevirtual 165, 3) := by decide +kernel
theorem d_M_haul_44 : decode b_M_haul 44 = .ok (.lstore 4, 2) := by decide +kernel
theorem d_M_haul_46 : decode b_M_haul 46 = .ok (.lload 4, 2) := by decide +kernel
theorem d_M_haul_48 : decode b_M_haul 48 = .ok (.ldc2_w 175, 3) := by decide +kernel
theorem d_M_haul_51 : decode b_M_haul 51 = .ok (.lcmp, 1) := by decide +kernel
theorem d_M_haul_52 : decode b_M_haul 52 = .ok (.ifCond .le 7, 3) := by decide +kernel
theorem d_M_haul_55 : decode b_M_haul 55 = .ok (.iconst (-1), 1) := by decide +kernel
theorem d_M_haul_56 : decode b_M_haul 56 = .ok (.goto 6, 3) := by decide +kernel
theorem d_M_haul_59 : decode b_M_haul 59 = .ok (.lload 4, 2) := by decide +kernel
theorem d_M_haul_61 : decode b_M_haul 61 = .ok (.l2i, 1) := by decide +kernel
theorem d_M_haul_62 : decode b_M_haul 62 = .ok (.ireturn, 1) := by decide +kernel
theorem d_M_first_0 : decode b_M_first 0 = .ok (.iload_n 1, 1) := by decide +kernel
theorem d_M_first_1 : decode b_M_first 1 = .ok (.istore_n 2, 1) := by decide +kernel
theorem d_M_first_2 : decode b_M_first 2 = .ok (.iconst 0, 1) := by decide +kernel
theorem d_M_first_3 : decode b_M_first 3 = .ok (.istore_n 3, 1) := by decide +kernel
theorem d_M_first_4 : decode b_M_first 4 = .ok (.iload_n 3, 1) := by decide +kernel
theorem d_M_first_5 : decode b_M_first 5 = .ok (.aload_n 0, 1) := by decide +kernel
theorem d_M_first_6 : decode b_M_first 6 = .ok (.getfield 139, 3) := by decide +kernel
theorem d_M_first_9 : decode b_M_first 9 = .ok (.if_icmp .ge 48, 3) := by decide +kernel
theorem d_M_first_12 : decode b_M_first 12 = .ok (.iload_n 1, 1) := by decide +kernel
theorem d_M_first_13 : decode b_M_first 13 = .ok (.ifCond .lt 44, 3) := by decide +kernel
theorem d_M_first_16 : decode b_M_first 16 = .ok (.aload_n 0, 1) := by decide +kernel
theorem d_M_first_17 : decode b_M_first 17 = .ok (.getfield 59, 3) := by decide +kernel
theorem d_M_first_20 : decode b_M_first 20 = .ok (.iload_n 3, 1) := by decide +kernel
theorem d_M_first_21 : decode b_M_first 21 = .ok (.iaload, 1) := by decide +kernel
theorem d_M_first_22 : decode b_M_first 22 = .ok (.iconst 3, 1) := by decide +kernel
theorem d_M_first_23 : decode b_M_first 23 = .ok (.if_icmp .ne 28, 3) := by decide +kernel
theorem d_M_first_26 : decode b_M_first 26 = .ok (.iload_n 3, 1) := by decide +kernel
theorem d_M_first_27 : decode b_M_first 27 = .ok (.ifCond .eq 15, 3) := by decide +kernel
theorem d_M_first_30 : decode b_M_first 30 = .ok (.aload_n 0, 1) := by decide +kernel
theorem d_M_first_31 : decode b_M_first 31 = .ok (.getfield 59, 3) := by decide +kernel
theorem d_M_first_34 : decode b_M_first 34 = .ok (.iload_n 3, 1) := by decide +kernel
theorem d_M_first_35 : decode b_M_first 35 = .ok (.iconst 1, 1) := by decide +kernel
theorem d_M_first_36 : decode b_M_first 36 = .ok (.isub, 1) := by decide +kernel
theorem d_M_first_37 : decode b_M_first 37 = .ok (.iaload, 1) := by decide +kernel
theorem d_M_first_38 : decode b_M_first 38 = .ok (.iconst 3, 1) := by decide +kernel
theorem d_M_first_39 : decode b_M_first 39 = .ok (.if_icmp .eq 12, 3) := by decide +kernel
theorem d_M_first_42 : decode b_M_first 42 = .ok (.iload_n 2, 1) := by decide +kernel
theorem d_M_first_43 : decode b_M_first 43 = .ok (.ifCond .ne 5, 3) := by decide +kernel
theorem d_M_first_46 : decode b_M_first 46 = .ok (.iload_n 3, 1) := by decide +kernel
theorem d_M_first_47 : decode b_M_first 47 = .ok (.ireturn, 1) := by decide +kernel
theorem d_M_first_48 : decode b_M_first 48 = .ok (.iinc 2 (-1), 3) := by decide +kernel
theorem d_M_first_51 : decode b_M_first 51 = .ok (.iinc 3 1, 3) := by decide +kernel
theorem d_M_first_54 : decode b_M_first 54 = .ok (.goto (-50), 3) := by decide +kernel
theorem d_M_first_57 : decode b_M_first 57 = .ok (.iconst (-1), 1) := by decide +kernel
theorem d_M_first_58 : decode b_M_first 58 = .ok (.ireturn, 1) := by decide +kernel
theorem d_M_last_0 : decode b_M_last 0 = .ok (.iload_n 1, 1) := by decide +kernel
theorem d_M_last_1 : decode b_M_last 1 = .ok (.istore_n 2, 1) := by decide +kernel
theorem d_M_last_2 : decode b_M_last 2 = .ok (.iload_n 2, 1) := by decide +kernel
theorem d_M_last_3 : decode b_M_last 3 = .ok (.iconst 1, 1) := by decide +kernel
theorem d_M_last_4 : decode b_M_last 4 = .ok (.iadd, 1) := by decide +kernel
theorem d_M_last_5 : decode b_M_last 5 = .ok (.aload_n 0, 1) := by decide +kernel
theorem d_M_last_6 : decode b_M_last 6 = .ok (.getfield 139, 3) := by decide +kernel
theorem d_M_last_9 : decode b_M_last 9 = .ok (.if_icmp .ge 21, 3) := by decide +kernel
theorem d_M_last_12 : decode b_M_last 12 = .ok (.aload_n 0, 1) := by decide +kernel
theorem d_M_last_13 : decode b_M_last 13 = .ok (.getfield 59, 3) := by decide +kernel
theorem d_M_last_16 : decode b_M_last 16 = .ok (.iload_n 2, 1) := by decide +kernel
theorem d_M_last_17 : decode b_M_last 17 = .ok (.iconst 1, 1) := by decide +kernel
theorem d_M_last_18 : decode b_M_last 18 = .ok (.iadd, 1) := by decide +kernel
theorem d_M_last_19 : decode b_M_last 19 = .ok (.iaload, 1) := by decide +kernel
theorem d_M_last_20 : decode b_M_last 20 = .ok (.iconst 3, 1) := by decide +kernel
theorem d_M_last_21 : decode b_M_last 21 = .ok (.if_icmp .ne 9, 3) := by decide +kernel
theorem d_M_last_24 : decode b_M_last 24 = .ok (.iinc 2 1, 3) := by decide +kernel
theorem d_M_last_27 : decode b_M_last 27 = .ok (.goto (-25), 3) := by decide +kernel
theorem d_M_last_30 : decode b_M_last 30 = .ok (.iload_n 2, 1) := by decide +kernel
theorem d_M_last_31 : decode b_M_last 31 = .ok (.ireturn, 1) := by decide +kernel
theorem d_M_gear_0 : decode b_M_gear 0 = .ok (.aload_n 0, 1) := by decide +kernel
theorem d_M_gear_1 : decode b_M_gear 1 = .ok (.iload_n 1, 1) := by decide +kernel
theorem d_M_gear_2 : decode b_M_gear 2 = .ok (.invokevirtual 169, 3) := by decide +kernel
theorem d_M_gear_5 : decode b_M_gear 5 = .ok (.istore_n 2, 1) := by decide +kernel
theorem d_M_gear_6 : decode b_M_gear 6 = .ok (.iload_n 2, 1) := by decide +kernel
theorem d_M_gear_7 : decode b_M_gear 7 = .ok (.iconst (-1), 1) := by decide +kernel
theorem d_M_gear_8 : decode b_M_gear 8 = .ok (.if_icmp .ne 5, 3) := by decide +kernel
theorem d_M_gear_11 : decode b_M_gear 11 = .ok (.iconst (-1), 1) := by decide +kernel
theorem d_M_gear_12 : decode b_M_gear 12 = .ok (.ireturn, 1) := by decide +kernel
theorem d_M_gear_13 : decode b_M_gear 13 = .ok (.iconst 0, 1) := by decide +kernel
theorem d_M_gear_14 : decode b_M_gear 14 = .ok (.istore_n 3, 1) := by decide +kernel
theorem d_M_gear_15 : decode b_M_gear 15 = .ok (.iload_n 2, 1) := by decide +kernel
theorem d_M_gear_16 : decode b_M_gear 16 = .ok (.istore 4, 2) := by decide +kernel
theorem d_M_gear_18 : decode b_M_gear 18 = .ok (.iload 4, 2) := by decide +kernel
theorem d_M_gear_20 : decode b_M_gear 20 = .ok (.aload_n 0, 1) := by decide +kernel
theorem d_M_gear_21 : decode b_M_gear 21 = .ok (.iload_n 2, 1) := by decide +kernel
theorem d_M_gear_22 : decode b_M_gear 22 = .ok (.invokevirtual 172, 3) := by decide +kernel
theorem d_M_gear_25 : decode b_M_gear 25 = .ok (.if_icmp .gt 28, 3) := by decide +kernel
theorem d_M_gear_28 : decode b_M_gear 28 = .ok (.iload_n 3, 1) := by decide +kernel
theorem d_M_gear_29 : decode b_M_gear 29 = .ok (.aload_n 0, 1) := by decide +kernel
theorem d_M_gear_30 : decode b_M_gear 30 = .ok (.getfield 29, 3) := by decide +kernel
theorem d_M_gear_33 : decode b_M_gear 33 = .ok (.iload 4, 2) := by decide +kernel
theorem d_M_gear_35 : decode b_M_gear 35 = .ok (.iaload, 1) := by decide +kernel
theorem d_M_gear_36 : decode b_M_gear 36 = .ok (.iconst 2, 1) := by decide +kernel
theorem d_M_gear_37 : decode b_M_gear 37 = .ok (.if_icmp .lt 7, 3) := by decide +kernel
theorem d_M_gear_40 : decode b_M_gear 40 = .ok (.iconst 1, 1) := by decide +kernel
theorem d_M_gear_41 : decode b_M_gear 41 = .ok (.goto 4, 3) := by decide +kernel
theorem d_M_gear_44 : decode b_M_gear 44 = .ok (.iconst 0, 1) := by decide +kernel
theorem d_M_gear_45 : decode b_M_gear 45 = .ok (.iadd, 1) := by decide +kernel
theorem d_M_gear_46 : decode b_M_gear 46 = .ok (.istore_n 3, 1) := by decide +kernel
theorem d_M_gear_47 : decode b_M_gear 47 = .ok (.iinc 4 1, 3) := by decide +kernel
theorem d_M_gear_50 : decode b_M_gear 50 = .ok (.goto (-32), 3) := by decide +kernel
theorem d_M_gear_53 : decode b_M_gear 53 = .ok (.iconst 2, 1) := by decide +kernel
theorem d_M_gear_54 : decode b_M_gear 54 = .ok (.iload_n 3, 1) := by decide +kernel
theorem d_M_gear_55 : decode b_M_gear 55 = .ok (.imul, 1) := by decide +kernel
theorem d_M_gear_56 : decode b_M_gear 56 = .ok (.aload_n 0, 1) := by decide +kernel
theorem d_M_gear_57 : decode b_M_gear 57 = .ok (.iload_n 2, 1) := by decide +kernel
theorem d_M_gear_58 : decode b_M_gear 58 = .ok (.invokevirtual 172, 3) := by decide +kernel
theorem d_M_gear_61 : decode b_M_gear 61 = .ok (.iload_n 2, 1) := by decide +kernel
theorem d_M_gear_62 : decode b_M_gear 62 = .ok (.isub, 1) := by decide +kernel
theorem d_M_gear_63 : decode b_M_gear 63 = .ok (.iconst 1, 1) := by decide +kernel
theorem d_M_gear_64 : decode b_M_gear 64 = .ok (.iadd, 1) := by decide +kernel
theorem d_M_gear_65 : decode b_M_gear 65 = .ok (.if_icmp .le 7, 3) := by decide +kernel
theorem d_M_gear_68 : decode b_M_gear 68 = .ok (.iconst 1, 1) := by decide +kernel
theorem d_M_gear_69 : decode b_M_gear 69 = .ok (.goto 4, 3) := by decide +kernel
theorem d_M_gear_72 : decode b_M_gear 72 = .ok (.iconst 0, 1) := by decide +kernel
theorem d_M_gear_73 : decode b_M_gear 73 = .ok (.ireturn, 1) := by decide +kernel
theorem d_M_differs_0 : decode b_M_differs 0 = .ok (.iload_n 1, 1) := by decide +kernel
theorem d_M_differs_1 : decode b_M_differs 1 = .ok (.istore_n 3, 1) := by decide +kernel
theorem d_M_differs_2 : decode b_M_differs 2 = .ok (.iconst 0, 1) := by decide +kernel
theorem d_M_differs_3 : decode b_M_differs 3 = .ok (.istore 4, 2) := by decide +kernel
theorem d_M_differs_5 : decode b_M_differs 5 = .ok (.iload 4, 2) := by decide +kernel
theorem d_M_differs_7 : decode b_M_differs 7 = .ok (.aload_n 0, 1) := by decide +kernel
theorem d_M_differs_8 : decode b_M_differs 8 = .ok (.getfield 139, 3) := by decide +kernel
theorem d_M_differs_11 : decode b_M_differs 11 = .ok (.if_icmp .ge 72, 3) := by decide +kernel
theorem d_M_differs_14 : decode b_M_differs 14 = .ok (.iload_n 1, 1) := by decide +kernel
theorem d_M_differs_15 : decode b_M_differs 15 = .ok (.ifCond .lt 68, 3) := by decide +kernel
theorem d_M_differs_18 : decode b_M_differs 18 = .ok (.iload_n 2, 1) := by decide +kernel
theorem d_M_differs_19 : decode b_M_differs 19 = .ok (.ifCond .lt 64, 3) := by decide +kernel
theorem d_M_differs_22 : decode b_M_differs 22 = .ok (.iload_n 2, 1) := by decide +kernel
theorem d_M_differs_23 : decode b_M_differs 23 = .ok (.iconst 2, 1) := by decide +kernel
theorem d_M_differs_24 : decode b_M_differs 24 = .ok (.if_icmp .ge 59, 3) := by decide +kernel
theorem d_M_differs_27 : decode b_M_differs 27 = .ok (.aload_n 0, 1) := by decide +kernel
theorem d_M_differs_28 : decode b_M_differs 28 = .ok (.aload_n 0, 1) := by decide +kernel
theorem d_M_differs_29 : decode b_M_differs 29 = .ok (.getfield 22, 3) := by decide +kernel
theorem d_M_differs_32 : decode b_M_differs 32 = .ok (.iload 4, 2) := by decide +kernel
theorem d_M_differs_34 : decode b_M_differs 34 = .ok (.laload, 1) := by decide +kernel
theorem d_M_differs_35 : decode b_M_differs 35 = .ok (.invokevirtual 177, 3) := by decide +kernel
theorem d_M_differs_38 : decode b_M_differs 38 = .ok (.istore 5, 2) := by decide +kernel
theorem d_M_differs_40 : decode b_M_differs 40 = .ok (.iload 5, 2) := by decide +kernel
theorem d_M_differs_42 : decode b_M_differs 42 = .ok (.iconst (-1), 1) := by decide +kernel
theorem d_M_differs_43 : decode b_M_differs 43 = .ok (.if_icmp .eq 34, 3) := by decide +kernel
theorem d_M_differs_46 : decode b_M_differs 46 = .ok (.iload 5, 2) := by decide +kernel
theorem d_M_differs_48 : decode b_M_differs 48 = .ok (.aload_n 0, 1) := by decide +kernel
theorem d_M_differs_49 : decode b_M_differs 49 = .ok (.getfield 59, 3) := by decide +kernel
theorem d_M_differs_52 : decode b_M_differs 52 = .ok (.iload 4, 2) := by decide +kernel
theorem d_M_differs_54 : decode b_M_differs 54 = .ok (.iaload, 1) := by decide +kernel
theorem d_M_differs_55 : decode b_M_differs 55 = .ok (.if_icmp .eq 22, 3) := by decide +kernel
theorem d_M_differs_58 : decode b_M_differs 58 = .ok (.iload_n 3, 1) := by decide +kernel
theorem d_M_differs_59 : decode b_M_differs 59 = .ok (.ifCond .ne 15, 3) := by decide +kernel
theorem d_M_differs_62 : decode b_M_differs 62 = .ok (.iload_n 2, 1) := by decide +kernel
theorem d_M_differs_63 : decode b_M_differs 63 = .ok (.ifCond .ne 8, 3) := by decide +kernel
theorem d_M_differs_66 : decode b_M_differs 66 = .ok (.iload 4, 2) := by decide +kernel
theorem d_M_differs_68 : decode b_M_differs 68 = .ok (.goto 5, 3) := by decide +kernel
theorem d_M_differs_71 : decode b_M_differs 71 = .ok (.iload 5, 2) := by decide +kernel
theorem d_M_differs_73 : decode b_M_differs 73 = .ok (.ireturn, 1) := by decide +kernel
theorem d_M_differs_74 : decode b_M_differs 74 = .ok (.iinc 3 (-1), 3) := by decide +kernel
theorem d_M_differs_77 : decode b_M_differs 77 = .ok (.iinc 4 1, 3) := by decide +kernel
theorem d_M_differs_80 : decode b_M_differs 80 = .ok (.goto (-75), 3) := by decide +kernel
theorem d_M_differs_83 : decode b_M_differs 83 = .ok (.iconst (-1), 1) := by decide +kernel
theorem d_M_differs_84 : decode b_M_differs 84 = .ok (.ireturn, 1) := by decide +kernel
theorem d_M_told_0 : decode b_M_told 0 = .ok (.aload_n 0, 1) := by decide +kernel
theorem d_M_told_1 : decode b_M_told 1 = .ok (.getfield 110, 3) := by decide +kernel
theorem d_M_told_4 : decode b_M_told 4 = .ok (.iconst 1, 1) := by decide +kernel
theorem d_M_told_5 : decode b_M_told 5 = .ok (.isub, 1) := by decide +kernel
theorem d_M_told_6 : decode b_M_told 6 = .ok (.istore_n 3, 1) := by decide +kernel
theorem d_M_told_7 : decode b_M_told 7 = .ok (.iload_n 3, 1) := by decide +kernel
theorem d_M_told_8 : decode b_M_told 8 = .ok (.ifCond .lt 38, 3) := by decide +kernel
theorem d_M_told_11 : decode b_M_told 11 = .ok (.aload_n 0, 1) := by decide +kernel
theorem d_M_told_12 : decode b_M_told 12 = .ok (.getfield 38, 3) := by decide +kernel
theorem d_M_told_15 : decode b_M_told 15 = .ok (.iload_n 3, 1) := by decide +kernel
theorem d_M_told_16 : decode b_M_told 16 = .ok (.laload, 1) := by decide +kernel
theorem d_M_told_17 : decode b_M_told 17 = .ok (.lload_n 1, 1) := by decide +kernel
theorem d_M_told_18 : decode b_M_told 18 = .ok (.lcmp, 1) := by decide +kernel
theorem d_M_told_19 : decode b_M_told 19 = .ok (.ifCond .gt 21, 3) := by decide +kernel
theorem d_M_told_22 : decode b_M_told 22 = .ok (.lload_n 1, 1) := by decide +kernel
theorem d_M_told_23 : decode b_M_told 23 = .ok (.aload_n 0, 1) := by decide +kernel
theorem d_M_told_24 : decode b_M_told 24 = .ok (.getfield 41, 3) := by decide +kernel
theorem d_M_told_27 : decode b_M_told 27 = .ok (.iload_n 3, 1) := by decide +kernel
theorem d_M_told_28 : decode b_M_told 28 = .ok (.laload, 1) := by decide +kernel
theorem d_M_told_29 : decode b_M_told 29 = .ok (.lcmp, 1) := by decide +kernel
theorem d_M_told_30 : decode b_M_told 30 = .ok (.ifCond .ge 10, 3) := by decide +kernel
theorem d_M_told_33 : decode b_M_told 33 = .ok (.aload_n 0, 1) := by decide +kernel
theorem d_M_told_34 : decode b_M_told 34 = .ok (.getfield 44, 3) := by decide +kernel
theorem d_M_told_37 : decode b_M_told 37 = .ok (.iload_n 3, 1) := by decide +kernel
theorem d_M_told_38 : decode b_M_told 38 = .ok (.iaload, 1) := by decide +kernel
theorem d_M_told_39 : decode b_M_told 39 = .ok (.ireturn, 1) := by decide +kernel
theorem d_M_told_40 : decode b_M_told 40 = .ok (.iinc 3 (-1), 3) := by decide +kernel
theorem d_M_told_43 : decode b_M_told 43 = .ok (.goto (-36), 3) := by decide +kernel
theorem d_M_told_46 : decode b_M_told 46 = .ok (.iconst (-1), 1) := by decide +kernel
theorem d_M_told_47 : decode b_M_told 47 = .ok (.ireturn, 1) := by decide +kernel
theorem d_M_unsure_0 : decode b_M_unsure 0 = .ok (.aload_n 0, 1) := by decide +kernel
theorem d_M_unsure_1 : decode b_M_unsure 1 = .ok (.iload_n 1, 1) := by decide +kernel
theorem d_M_unsure_2 : decode b_M_unsure 2 = .ok (.invokevirtual 162, 3) := by decide +kernel
theorem d_M_unsure_5 : decode b_M_unsure 5 = .ok (.ifCond .eq 35, 3) := by decide +kernel
theorem d_M_unsure_8 : decode b_M_unsure 8 = .ok (.aload_n 0, 1) := by decide +kernel
theorem d_M_unsure_9 : decode b_M_unsure 9 = .ok (.getfield 62, 3) := by decide +kernel
theorem d_M_unsure_12 : decode b_M_unsure 12 = .ok (.iload_n 1, 1) := by decide +kernel
theorem d_M_unsure_13 : decode b_M_unsure 13 = .ok (.iaload, 1) := by decide +kernel
theorem d_M_unsure_14 : decode b_M_unsure 14 = .ok (.iconst (-1), 1) := by decide +kernel
theorem d_M_unsure_15 : decode b_M_unsure 15 = .ok (.if_icmp .eq 25, 3) := by decide +kernel
theorem d_M_unsure_18 : decode b_M_unsure 18 = .ok (.aload_n 0, 1) := by decide +kernel
theorem d_M_unsure_19 : decode b_M_unsure 19 = .ok (.getfield 62, 3) := by decide +kernel
theorem d_M_unsure_22 : decode b_M_unsure 22 = .ok (.iload_n 1, 1) := by decide +kernel
theorem d_M_unsure_23 : decode b_M_unsure 23 = .ok (.iaload, 1) := by decide +kernel
theorem d_M_unsure_24 : decode b_M_unsure 24 = .ok (.aload_n 0, 1) := by decide +kernel
theorem d_M_unsure_25 : decode b_M_unsure 25 = .ok (.getfield 136, 3) := by decide +kernel
theorem d_M_unsure_28 : decode b_M_unsure 28 = .ok (.isub, 1) := by decide +kernel
theorem d_M_unsure_29 : decode b_M_unsure 29 = .ok (.aload_n 0, 1) := by decide +kernel
theorem d_M_unsure_30 : decode b_M_unsure 30 = .ok (.getfield 107, 3) := by decide +kernel
theorem d_M_unsure_33 : decode b_M_unsure 33 = .ok (.if_icmp .gt 7, 3) := by decide +kernel
theorem d_M_unsure_36 : decode b_M_unsure 36 = .ok (.iconst 1, 1) := by decide +kernel
theorem d_M_unsure_37 : decode b_M_unsure 37 = .ok (.goto 4, 3) := by decide +kernel
theorem d_M_unsure_40 : decode b_M_unsure 40 = .ok (.iconst 0, 1) := by decide +kernel
theorem d_M_unsure_41 : decode b_M_unsure 41 = .ok (.ireturn, 1) := by decide +kernel
theorem d_M_tied_0 : decode b_M_tied 0 = .ok (.aload_n 0, 1) := by decide +kernel
theorem d_M_tied_1 : decode b_M_tied 1 = .ok (.iload_n 1, 1) := by decide +kernel
theorem d_M_tied_2 : decode b_M_tied 2 = .ok (.invokevirtual 162, 3) := by decide +kernel
theorem d_M_tied_5 : decode b_M_tied 5 = .ok (.ifCond .eq 20, 3) := by decide +kernel
theorem d_M_tied_8 : decode b_M_tied 8 = .ok (.aload_n 0, 1) := by decide +kernel
theorem d_M_tied_9 : decode b_M_tied 9 = .ok (.getfield 62, 3) := by decide +kernel
theorem d_M_tied_12 : decode b_M_tied 12 = .ok (.iload_n 1, 1) := by decide +kernel
theorem d_M_tied_13 : decode b_M_tied 13 = .ok (.iaload, 1) := by decide +kernel
theorem d_M_tied_14 : decode b_M_tied 14 = .ok (.aload_n 0, 1) := by decide +kernel
theorem d_M_tied_15 : decode b_M_tied 15 = .ok (.getfield 136, 3) := by decide +kernel
theorem d_M_tied_18 : decode b_M_tied 18 = .ok (.if_icmp .ne 7, 3) := by decide +kernel
theorem d_M_tied_21 : decode b_M_tied 21 = .ok (.iconst 1, 1) := by decide +kernel
theorem d_M_tied_22 : decode b_M_tied 22 = .ok (.goto 4, 3) := by decide +kernel
theorem d_M_tied_25 : decode b_M_tied 25 = .ok (.iconst 0, 1) := by decide +kernel
theorem d_M_tied_26 : decode b_M_tied 26 = .ok (.ireturn, 1) := by decide +kernel
theorem d_M_map_0 : decode b_M_map 0 = .ok (.aload_n 0, 1) := by decide +kernel
theorem d_M_map_1 : decode b_M_map 1 = .ok (.getfield 139, 3) := by decide +kernel
theorem d_M_map_4 : decode b_M_map 4 = .ok (.ifCond .eq 23, 3) := by decide +kernel
theorem d_M_map_7 : decode b_M_map 7 = .ok (.iload_n 1, 1) := by decide +kernel
theorem d_M_map_8 : decode b_M_map 8 = .ok (.ifCond .lt 19, 3) := by decide +kernel
theorem d_M_map_11 : decode b_M_map 11 = .ok (.iload_n 1, 1) := by decide +kernel
theorem d_M_map_12 : decode b_M_map 12 = .ok (.bipush 19, 2) := by decide +kernel
theorem d_M_map_14 : decode b_M_map 14 = .ok (.if_icmp .gt 13, 3) := by decide +kernel
theorem d_M_map_17 : decode b_M_map 17 = .ok (.iload_n 2, 1) := by decide +kernel
theorem d_M_map_18 : decode b_M_map 18 = .ok (.ifCond .lt 9, 3) := by decide +kernel
theorem d_M_map_21 : decode b_M_map 21 = .ok (.iload_n 2, 1) := by decide +kernel
theorem d_M_map_22 : decode b_M_map 22 = .ok (.bipush 19, 2) := by decide +kernel
theorem d_M_map_24 : decode b_M_map 24 = .ok (.if_icmp .le 7, 3) := by decide +kernel
theorem d_M_map_27 : decode b_M_map 27 = .ok (.ldc2_w 160, 3) := by decide +kernel
theorem d_M_map_30 : decode b_M_map 30 = .ok (.lreturn, 1) := by decide +kernel
theorem d_M_map_31 : decode b_M_map 31 = .ok (.lconst 0, 1) := by decide +kernel
theorem d_M_map_32 : decode b_M_map 32 = .ok (.lstore_n 3, 1) := by decide +kernel
theorem d_M_map_33 : decode b_M_map 33 = .ok (.iconst 0, 1) := by decide +kernel
theorem d_M_map_34 : decode b_M_map 34 = .ok (.istore 5, 2) := by decide +kernel
theorem d_M_map_36 : decode b_M_map 36 = .ok (.iload 5, 2) := by decide +kernel
theorem d_M_map_38 : decode b_M_map 38 = .ok (.aload_n 0, 1) := by decide +kernel
theorem d_M_map_39 : decode b_M_map 39 = .ok (.getfield 115, 3) := by decide +kernel
theorem d_M_map_42 : decode b_M_map 42 = .ok (.if_icmp .ge 75, 3) := by decide +kernel
theorem d_M_map_45 : decode b_M_map 45 = .ok (.lload_n 3, 1) := by decide +kernel
theorem d_M_map_46 : decode b_M_map 46 = .ok (.aload_n 0, 1) := by decide +kernel
theorem d_M_map_47 : decode b_M_map 47 = .ok (.getfield 50, 3) := by decide +kernel
theorem d_M_map_50 : decode b_M_map 50 = .ok (.iload 5, 2) := by decide +kernel
theorem d_M_map_52 : decode b_M_map 52 = .ok (.iaload, 1) := by decide +kernel
theorem d_M_map_53 : decode b_M_map 53 = .ok (.iload_n 1, 1) := by decide +kernel
theorem d_M_map_54 : decode b_M_map 54 = .ok (.if_icmp .ne 54, 3) := by decide +kernel
theorem d_M_map_57 : decode b_M_map 57 = .ok (.aload_n 0, 1) := by decide +kernel
theorem d_M_map_58 : decode b_M_map 58 = .ok (.getfield 53, 3) := by decide +kernel
theorem d_M_map_61 : decode b_M_map 61 = .ok (.iload 5, 2) := by decide +kernel
theorem d_M_map_63 : decode b_M_map 63 = .ok (.iaload, 1) := by decide +kernel
theorem d_M_map_64 : decode b_M_map 64 = .ok (.iload_n 2, 1) := by decide +kernel
theorem d_M_map_65 : decode b_M_map 65 = .ok (.if_icmp .ne 43, 3) := by decide +kernel
theorem d_M_map_68 : decode b_M_map 68 = .ok (.aload_n 0, 1) := by decide +kernel
theorem d_M_map_69 : decode b_M_map 69 = .ok (.getfield 47, 3) := by decide +kernel
theorem d_M_map_72 : decode b_M_map 72 = .ok (.iload 5, 2) := by decide +kernel
theorem d_M_map_74 : decode b_M_map 74 = .ok (.iaload, 1) := by decide +kernel
theorem d_M_map_75 : decode b_M_map 75 = .ok (.aload_n 0, 1) := by decide +kernel
theorem d_M_map_76 : decode b_M_map 76 = .ok (.getfield 139, 3) := by decide +kernel
theorem d_M_map_79 : decode b_M_map 79 = .ok (.if_icmp .ge 29, 3) := by decide +kernel
theorem d_M_map_82 : decode b_M_map 82 = .ok (.aload_n 0, 1) := by decide +kernel
theorem d_M_map_83 : decode b_M_map 83 = .ok (.getfield 59, 3) := by decide +kernel
theorem d_M_map_86 : decode b_M_map 86 = .ok (.aload_n 0, 1) := by decide +kernel
theorem d_M_map_87 : decode b_M_map 87 = .ok (.getfield 47, 3) := by decide +kernel
theorem d_M_map_90 : decode b_M_map 90 = .ok (.iload 5, 2) := by decide +kernel
theorem d_M_map_92 : decode b_M_map 92 = .ok (.iaload, 1) := by decide +kernel
theorem d_M_map_93 : decode b_M_map 93 = .ok (.iaload, 1) := by decide +kernel
theorem d_M_map_94 : decode b_M_map 94 = .ok (.iconst 3, 1) := by decide +kernel
theorem d_M_map_95 : decode b_M_map 95 = .ok (.if_icmp .ne 13, 3) := by decide +kernel
theorem d_M_map_98 : decode b_M_map 98 = .ok (.aload_n 0, 1) := by decide +kernel
theorem d_M_map_99 : decode b_M_map 99 = .ok (.getfield 56, 3) := by decide +kernel
theorem d_M_map_102 : decode b_M_map 102 = .ok (.iload 5, 2) := by decide +kernel
theorem d_M_map_104 : decode b_M_map 104 = .ok (.laload, 1) := by decide +kernel
theorem d_M_map_105 : decode b_M_map 105 = .ok (.goto 4, 3) := by decide +kernel
theorem d_M_map_108 : decode b_M_map 108 = .ok (.lconst 0, 1) := by decide +kernel
theorem d_M_map_109 : decode b_M_map 109 = .ok (.ladd, 1) := by decide +kernel
theorem d_M_map_110 : decode b_M_map 110 = .ok (.lstore_n 3, 1) := by decide +kernel
theorem d_M_map_111 : decode b_M_map 111 = .ok (.iinc 5 1, 3) := by decide +kernel
theorem d_M_map_114 : decode b_M_map 114 = .ok (.goto (-78), 3) := by decide +kernel
theorem d_M_map_117 : decode b_M_map 117 = .ok (.lload_n 3, 1) := by decide +kernel
theorem d_M_map_118 : decode b_M_map 118 = .ok (.lreturn, 1) := by decide +kernel
