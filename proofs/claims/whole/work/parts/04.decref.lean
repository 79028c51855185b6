theorem dX9_init_0 : decode cX9_init 0 = .ok (.aload_n 0, 1) := by decide +kernel
theorem dX9_init_1 : decode cX9_init 1 = .ok (.invokespecial 1, 3) := by decide +kernel
theorem dX9_init_4 : decode cX9_init 4 = .ok (.aload_n 0, 1) := by decide +kernel
theorem dX9_init_5 : decode cX9_init 5 = .ok (.sipush 360, 3) := by decide +kernel
theorem dX9_init_8 : decode cX9_init 8 = .ok (.newarray .int, 2) := by decide +kernel
theorem dX9_init_10 : decode cX9_init 10 = .ok (.putfield 7, 3) := by decide +kernel
theorem dX9_init_13 : decode cX9_init 13 = .ok (.aload_n 0, 1) := by decide +kernel
theorem dX9_init_14 : decode cX9_init 14 = .ok (.bipush 6, 2) := by decide +kernel
theorem dX9_init_16 : decode cX9_init 16 = .ok (.newarray .int, 2) := by decide +kernel
theorem dX9_init_18 : decode cX9_init 18 = .ok (.putfield 13, 3) := by decide +kernel
theorem dX9_init_21 : decode cX9_init 21 = .ok (.aload_n 0, 1) := by decide +kernel
theorem dX9_init_22 : decode cX9_init 22 = .ok (.bipush 12, 2) := by decide +kernel
theorem dX9_init_24 : decode cX9_init 24 = .ok (.newarray .int, 2) := by decide +kernel
theorem dX9_init_26 : decode cX9_init 26 = .ok (.putfield 16, 3) := by decide +kernel
theorem dX9_init_29 : decode cX9_init 29 = .ok (.aload_n 0, 1) := by decide +kernel
theorem dX9_init_30 : decode cX9_init 30 = .ok (.bipush 16, 2) := by decide +kernel
theorem dX9_init_32 : decode cX9_init 32 = .ok (.newarray .int, 2) := by decide +kernel
theorem dX9_init_34 : decode cX9_init 34 = .ok (.putfield 19, 3) := by decide +kernel
theorem dX9_init_37 : decode cX9_init 37 = .ok (.aload_n 0, 1) := by decide +kernel
theorem dX9_init_38 : decode cX9_init 38 = .ok (.bipush 16, 2) := by decide +kernel
theorem dX9_init_40 : decode cX9_init 40 = .ok (.newarray .int, 2) := by decide +kernel
theorem dX9_init_42 : decode cX9_init 42 = .ok (.putfield 22, 3) := by decide +kernel
theorem dX9_init_45 : decode cX9_init 45 = .ok (.aload_n 0, 1) := by decide +kernel
theorem dX9_init_46 : decode cX9_init 46 = .ok (.bipush 16, 2) := by decide +kernel
theorem dX9_init_48 : decode cX9_init 48 = .ok (.newarray .int, 2) := by decide +kernel
theorem dX9_init_50 : decode cX9_init 50 = .ok (.putfield 25, 3) := by decide +kernel
theorem dX9_init_53 : decode cX9_init 53 = .ok (.aload_n 0, 1) := by decide +kernel
theorem dX9_init_54 : decode cX9_init 54 = .ok (.bipush 16, 2) := by decide +kernel
theorem dX9_init_56 : decode cX9_init 56 = .ok (.newarray .int, 2) := by decide +kernel
theorem dX9_init_58 : decode cX9_init 58 = .ok (.putfield 28, 3) := by decide +kernel
theorem dX9_init_61 : decode cX9_init 61 = .ok (.aload_n 0, 1) := by decide +kernel
theorem dX9_init_62 : decode cX9_init 62 = .ok (.bipush 16, 2) := by decide +kernel
theorem dX9_init_64 : decode cX9_init 64 = .ok (.newarray .int, 2) := by decide +kernel
theorem dX9_init_66 : decode cX9_init 66 = .ok (.putfield 31, 3) := by decide +kernel
theorem dX9_init_69 : decode cX9_init 69 = .ok (.aload_n 0, 1) := by decide +kernel
theorem dX9_init_70 : decode cX9_init 70 = .ok (.bipush 16, 2) := by decide +kernel
theorem dX9_init_72 : decode cX9_init 72 = .ok (.newarray .boolean, 2) := by decide +kernel
theorem dX9_init_74 : decode cX9_init 74 = .ok (.putfield 34, 3) := by decide +kernel
theorem dX9_init_77 : decode cX9_init 77 = .ok (.aload_n 0, 1) := by decide +kernel
theorem dX9_init_78 : decode cX9_init 78 = .ok (.bipush 48, 2) := by decide +kernel
theorem dX9_init_80 : decode cX9_init 80 = .ok (.newarray .int, 2) := by decide +kernel
theorem dX9_init_82 : decode cX9_init 82 = .ok (.putfield 38, 3) := by decide +kernel
theorem dX9_init_85 : decode cX9_init 85 = .ok (.aload_n 0, 1) := by decide +kernel
theorem dX9_init_86 : decode cX9_init 86 = .ok (.bipush 16, 2) := by decide +kernel
theorem dX9_init_88 : decode cX9_init 88 = .ok (.newarray .int, 2) := by decide +kernel
theorem dX9_init_90 : decode cX9_init 90 = .ok (.putfield 41, 3) := by decide +kernel
theorem dX9_init_93 : decode cX9_init 93 = .ok (.aload_n 0, 1) := by decide +kernel
theorem dX9_init_94 : decode cX9_init 94 = .ok (.sipush 864, 3) := by decide +kernel
theorem dX9_init_97 : decode cX9_init 97 = .ok (.newarray .int, 2) := by decide +kernel
theorem dX9_init_99 : decode cX9_init 99 = .ok (.putfield 44, 3) := by decide +kernel
theorem dX9_init_102 : decode cX9_init 102 = .ok (.aload_n 0, 1) := by decide +kernel
theorem dX9_init_103 : decode cX9_init 103 = .ok (.sipush 864, 3) := by decide +kernel
theorem dX9_init_106 : decode cX9_init 106 = .ok (.newarray .int, 2) := by decide +kernel
theorem dX9_init_108 : decode cX9_init 108 = .ok (.putfield 47, 3) := by decide +kernel
theorem dX9_init_111 : decode cX9_init 111 = .ok (.aload_n 0, 1) := by decide +kernel
theorem dX9_init_112 : decode cX9_init 112 = .ok (.sipush 864, 3) := by decide +kernel
theorem dX9_init_115 : decode cX9_init 115 = .ok (.newarray .int, 2) := by decide +kernel
theorem dX9_init_117 : decode cX9_init 117 = .ok (.putfield 50, 3) := by decide +kernel
theorem dX9_init_120 : decode cX9_init 120 = .ok (.aload_n 0, 1) := by decide +kernel
theorem dX9_init_121 : decode cX9_init 121 = .ok (.sipush 3456, 3) := by decide +kernel
theorem dX9_init_124 : decode cX9_init 124 = .ok (.newarray .int, 2) := by decide +kernel
theorem dX9_init_126 : decode cX9_init 126 = .ok (.putfield 53, 3) := by decide +kernel
theorem dX9_init_129 : decode cX9_init 129 = .ok (.aload_n 0, 1) := by decide +kernel
theorem dX9_init_130 : decode cX9_init 130 = .ok (.bipush 6, 2) := by decide +kernel
theorem dX9_init_132 : decode cX9_init 132 = .ok (.newarray .int, 2) := by decide +kernel
theorem dX9_init_134 : decode cX9_init 134 = .ok (.putfield 56, 3) := by decide +kernel
theorem dX9_init_137 : decode cX9_init 137 = .ok (.aload_n 0, 1) := by decide +kernel
theorem dX9_init_138 : decode cX9_init 138 = .ok (.bipush 6, 2) := by decide +kernel
theorem dX9_init_140 : decode cX9_init 140 = .ok (.newarray .int, 2) := by decide +kernel
theorem dX9_init_142 : decode cX9_init 142 = .ok (.putfield 59, 3) := by decide +kernel
theorem dX9_init_145 : decode cX9_init 145 = .ok (.aload_n 0, 1) := by decide +kernel
theorem dX9_init_146 : decode cX9_init 146 = .ok (.bipush 6, 2) := by decide +kernel
theorem dX9_init_148 : decode cX9_init 148 = .ok (.newarray .int, 2) := by decide +kernel
theorem dX9_init_150 : decode cX9_init 150 = .ok (.putfield 62, 3) := by decide +kernel
theorem dX9_init_153 : decode cX9_init 153 = .ok (.aload_n 0, 1) := by decide +kernel
theorem dX9_init_154 : decode cX9_init 154 = .ok (.bipush 6, 2) := by decide +kernel
theorem dX9_init_156 : decode cX9_init 156 = .ok (.newarray .int, 2) := by decide +kernel
theorem dX9_init_158 : decode cX9_init 158 = .ok (.putfield 65, 3) := by decide +kernel
theorem dX9_init_161 : decode cX9_init 161 = .ok (.aload_n 0, 1) := by decide +kernel
theorem dX9_init_162 : decode cX9_init 162 = .ok (.bipush 6, 2) := by decide +kernel
theorem dX9_init_164 : decode cX9_init 164 = .ok (.newarray .int, 2) := by decide +kernel
theorem dX9_init_166 : decode cX9_init 166 = .ok (.putfield 68, 3) := by decide +kernel
theorem dX9_init_169 : decode cX9_init 169 = .ok (.aload_n 0, 1) := by decide +kernel
theorem dX9_init_170 : decode cX9_init 170 = .ok (.bipush 6, 2) := by decide +kernel
theorem dX9_init_172 : decode cX9_init 172 = .ok (.newarray .int, 2) := by decide +kernel
theorem dX9_init_174 : decode cX9_init 174 = .ok (.putfield 71, 3) := by decide +kernel
theorem dX9_init_177 : decode cX9_init 177 = .ok (.aload_n 0, 1) := by decide +kernel
theorem dX9_init_178 : decode cX9_init 178 = .ok (.iconst 4, 1) := by decide +kernel
theorem dX9_init_179 : decode cX9_init 179 = .ok (.newarray .int, 2) := by decide +kernel
theorem dX9_init_181 : decode cX9_init 181 = .ok (.putfield 74, 3) := by decide +kernel
theorem dX9_init_184 : decode cX9_init 184 = .ok (.aload_n 0, 1) := by decide +kernel
theorem dX9_init_185 : decode cX9_init 185 = .ok (.iconst 4, 1) := by decide +kernel
theorem dX9_init_186 : decode cX9_init 186 = .ok (.newarray .boolean, 2) := by decide +kernel
theorem dX9_init_188 : decode cX9_init 188 = .ok (.putfield 77, 3) := by decide +kernel
theorem dX9_init_191 : decode cX9_init 191 = .ok (.aload_n 0, 1) := by decide +kernel
theorem dX9_init_192 : decode cX9_init 192 = .ok (.iconst 4, 1) := by decide +kernel
theorem dX9_init_193 : decode cX9_init 193 = .ok (.newarray .int, 2) := by decide +kernel
theorem dX9_init_195 : decode cX9_init 195 = .ok (.putfield 80, 3) := by decide +kernel
theorem dX9_init_198 : decode cX9_init 198 = .ok (.aload_n 0, 1) := by decide +kernel
theorem dX9_init_199 : decode cX9_init 199 = .ok (.sipush 144, 3) := by decide +kernel
theorem dX9_init_202 : decode cX9_init 202 = .ok (.newarray .int, 2) := by decide +kernel
theorem dX9_init_204 : decode cX9_init 204 = .ok (.putfield 83, 3) := by decide +kernel
theorem dX9_init_207 : decode cX9_init 207 = .ok (.aload_n 0, 1) := by decide +kernel
theorem dX9_init_208 : decode cX9_init 208 = .ok (.iconst 4, 1) := by decide +kernel
theorem dX9_init_209 : decode cX9_init 209 = .ok (.newarray .int, 2) := by decide +kernel
theorem dX9_init_211 : decode cX9_init 211 = .ok (.putfield 86, 3) := by decide +kernel
theorem dX9_init_214 : decode cX9_init 214 = .ok (.aload_n 0, 1) := by decide +kernel
theorem dX9_init_215 : decode cX9_init 215 = .ok (.sipush 540, 3) := by decide +kernel
theorem dX9_init_218 : decode cX9_init 218 = .ok (.newarray .int, 2) := by decide +kernel
theorem dX9_init_220 : decode cX9_init 220 = .ok (.putfield 89, 3) := by decide +kernel
theorem dX9_init_223 : decode cX9_init 223 = .ok (.aload_n 0, 1) := by decide +kernel
theorem dX9_init_224 : decode cX9_init 224 = .ok (.sipush 144, 3) := by decide +kernel
theorem dX9_init_227 : decode cX9_init 227 = .ok (.newarray .int, 2) := by decide +kernel
theorem dX9_init_229 : decode cX9_init 229 = .ok (.putfield 92, 3) := by decide +kernel
theorem dX9_init_232 : decode cX9_init 232 = .ok (.aload_n 0, 1) := by decide +kernel
theorem dX9_init_233 : decode cX9_init 233 = .ok (.iconst 4, 1) := by decide +kernel
theorem dX9_init_234 : decode cX9_init 234 = .ok (.newarray .int, 2) := by decide +kernel
theorem dX9_init_236 : decode cX9_init 236 = .ok (.putfield 95, 3) := by decide +kernel
theorem dX9_init_239 : decode cX9_init 239 = .ok (.aload_n 0, 1) := by decide +kernel
theorem dX9_init_240 : decode cX9_init 240 = .ok (.iconst 3, 1) := by decide +kernel
theorem dX9_init_241 : decode cX9_init 241 = .ok (.newarray .int, 2) := by decide +kernel
theorem dX9_init_243 : decode cX9_init 243 = .ok (.putfield 98, 3) := by decide +kernel
theorem dX9_init_246 : decode cX9_init 246 = .ok (.aload_n 0, 1) := by decide +kernel
theorem dX9_init_247 : decode cX9_init 247 = .ok (.bipush 7, 2) := by decide +kernel
theorem dX9_init_249 : decode cX9_init 249 = .ok (.newarray .int, 2) := by decide +kernel
theorem dX9_init_251 : decode cX9_init 251 = .ok (.putfield 101, 3) := by decide +kernel
theorem dX9_init_254 : decode cX9_init 254 = .ok (.aload_n 0, 1) := by decide +kernel
theorem dX9_init_255 : decode cX9_init 255 = .ok (.bipush 7, 2) := by decide +kernel
theorem dX9_init_257 : decode cX9_init 257 = .ok (.newarray .int, 2) := by decide +kernel
theorem dX9_init_259 : decode cX9_init 259 = .ok (.putfield 104, 3) := by decide +kernel
theorem dX9_init_262 : decode cX9_init 262 = .ok (.return_, 1) := by decide +kernel
theorem dX9_thrown_0 : decode cX9_thrown 0 = .ok (.aload_n 0, 1) := by decide +kernel
theorem dX9_thrown_1 : decode cX9_thrown 1 = .ok (.getfield 107, 3) := by decide +kernel
theorem dX9_thrown_4 : decode cX9_thrown 4 = .ok (.ireturn, 1) := by decide +kernel
theorem dX9_in_0 : decode cX9_in 0 = .ok (.iload_n 0, 1) := by decide +kernel
theorem dX9_in_1 : decode cX9_in 1 = .ok (.iload_n 1, 1) := by decide +kernel
theorem dX9_in_2 : decode cX9_in 2 = .ok (.if_icmp .lt 12, 3) := by decide +kernel
theorem dX9_in_5 : decode cX9_in 5 = .ok (.iload_n 0, 1) := by decide +kernel
theorem dX9_in_6 : decode cX9_in 6 = .ok (.iload_n 2, 1) := by decide +kernel
theorem dX9_in_7 : decode cX9_in 7 = .ok (.if_icmp .gt 7, 3) := by decide +kernel
theorem dX9_in_10 : decode cX9_in 10 = .ok (.iconst 1, 1) := by decide +kernel
theorem dX9_in_11 : decode cX9_in 11 = .ok (.goto 4, 3) := by decide +kernel
theorem dX9_in_14 : decode cX9_in 14 = .ok (.iconst 0, 1) := by decide +kernel
theorem dX9_in_15 : decode cX9_in 15 = .ok (.ireturn, 1) := by decide +kernel
theorem dX9_goes_0 : decode cX9_goes 0 = .ok (.aload_n 0, 1) := by decide +kernel
theorem dX9_goes_1 : decode cX9_goes 1 = .ok (.iload_n 1, 1) := by decide +kernel
theorem dX9_goes_2 : decode cX9_goes 2 = .ok (.ifCond .ne 7, 3) := by decide +kernel
theorem dX9_goes_5 : decode cX9_goes 5 = .ok (.iconst 1, 1) := by decide +kernel
theorem dX9_goes_6 : decode cX9_goes 6 = .ok (.goto 20, 3) := by decide +kernel
theorem dX9_goes_9 : decode cX9_goes 9 = .ok (.iload_n 2, 1) := by decide +kernel
theorem dX9_goes_10 : decode cX9_goes 10 = .ok (.ifCond .ne 7, 3) := by decide +kernel
theorem dX9_goes_13 : decode cX9_goes 13 = .ok (.iconst 2, 1) := by decide +kernel
theorem dX9_goes_14 : decode cX9_goes 14 = .ok (.goto 12, 3) := by decide +kernel
theorem dX9_goes_17 : decode cX9_goes 17 = .ok (.iload_n 3, 1) := by decide +kernel
theorem dX9_goes_18 : decode cX9_goes 18 = .ok (.ifCond .eq 7, 3) := by decide +kernel
theorem dX9_goes_21 : decode cX9_goes 21 = .ok (.iconst 0, 1) := by decide +kernel
theorem dX9_goes_22 : decode cX9_goes 22 = .ok (.goto 4, 3) := by decide +kernel
theorem dX9_goes_25 : decode cX9_goes 25 = .ok (.iconst 3, 1) := by decide +kernel
theorem dX9_goes_26 : decode cX9_goes 26 = .ok (.putfield 107, 3) := by decide +kernel
theorem dX9_goes_29 : decode cX9_goes 29 = .ok (.aload_n 0, 1) := by decide +kernel
theorem dX9_goes_30 : decode cX9_goes 30 = .ok (.getfield 107, 3) := by decide +kernel
theorem dX9_goes_33 : decode cX9_goes 33 = .ok (.ifCond .ne 7, 3) := by decide +kernel
theorem dX9_goes_36 : decode cX9_goes 36 = .ok (.iconst 1, 1) := by decide +kernel
theorem dX9_goes_37 : decode cX9_goes 37 = .ok (.goto 4, 3) := by decide +kernel
theorem dX9_goes_40 : decode cX9_goes 40 = .ok (.iconst 0, 1) := by decide +kernel
theorem dX9_goes_41 : decode cX9_goes 41 = .ok (.ireturn, 1) := by decide +kernel
theorem dX9_isProgram_0 : decode cX9_isProgram 0 = .ok (.iload_n 1, 1) := by decide +kernel
theorem dX9_isProgram_1 : decode cX9_isProgram 1 = .ok (.iconst 0, 1) := by decide +kernel
theorem dX9_isProgram_2 : decode cX9_isProgram 2 = .ok (.aload_n 0, 1) := by decide +kernel
theorem dX9_isProgram_3 : decode cX9_isProgram 3 = .ok (.getfield 111, 3) := by decide +kernel
theorem dX9_isProgram_6 : decode cX9_isProgram 6 = .ok (.iconst 1, 1) := by decide +kernel
theorem dX9_isProgram_7 : decode cX9_isProgram 7 = .ok (.isub, 1) := by decide +kernel
theorem dX9_isProgram_8 : decode cX9_isProgram 8 = .ok (.invokestatic 114, 3) := by decide +kernel
theorem dX9_isProgram_11 : decode cX9_isProgram 11 = .ok (.ireturn, 1) := by decide +kernel
theorem dX9_isTool_0 : decode cX9_isTool 0 = .ok (.iload_n 1, 1) := by decide +kernel
theorem dX9_isTool_1 : decode cX9_isTool 1 = .ok (.iconst 0, 1) := by decide +kernel
theorem dX9_isTool_2 : decode cX9_isTool 2 = .ok (.aload_n 0, 1) := by decide +kernel
theorem dX9_isTool_3 : decode cX9_isTool 3 = .ok (.getfield 118, 3) := by decide +kernel
theorem dX9_isTool_6 : decode cX9_isTool 6 = .ok (.iconst 1, 1) := by decide +kernel
theorem dX9_isTool_7 : decode cX9_isTool 7 = .ok (.isub, 1) := by decide +kernel
theorem dX9_isTool_8 : decode cX9_isTool 8 = .ok (.invokestatic 114, 3) := by decide +kernel
theorem dX9_isTool_11 : decode cX9_isTool 11 = .ok (.ireturn, 1) := by decide +kernel
theorem dX9_isPallet_0 : decode cX9_isPallet 0 = .ok (.iload_n 1, 1) := by decide +kernel
theorem dX9_isPallet_1 : decode cX9_isPallet 1 = .ok (.iconst 0, 1) := by decide +kernel
theorem dX9_isPallet_2 : decode cX9_isPallet 2 = .ok (.aload_n 0, 1) := by decide +kernel
theorem dX9_isPallet_3 : decode cX9_isPallet 3 = .ok (.getfield 121, 3) := by decide +kernel
theorem dX9_isPallet_6 : decode cX9_isPallet 6 = .ok (.iconst 1, 1) := by decide +kernel
theorem dX9_isPallet_7 : decode cX9_isPallet 7 = .ok (.isub, 1) := by decide +kernel
theorem dX9_isPallet_8 : decode cX9_isPallet 8 = .ok (.invokestatic 114, 3) := by decide +kernel
theorem dX9_isPallet_11 : decode cX9_isPallet 11 = .ok (.ireturn, 1) := by decide +kernel
theorem dX9_isCell_0 : decode cX9_isCell 0 = .ok (.iload_n 0, 1) := by decide +kernel
theorem dX9_isCell_1 : decode cX9_isCell 1 = .ok (.iconst 0, 1) := by decide +kernel
theorem dX9_isCell_2 : decode cX9_isCell 2 = .ok (.bipush 11, 2) := by decide +kernel
theorem dX9_isCell_4 : decode cX9_isCell 4 = .ok (.invokestatic 114, 3) := by decide +kernel
theorem dX9_isCell_7 : decode cX9_isCell 7 = .ok (.ifCond .eq 17, 3) := by decide +kernel
theorem dX9_isCell_10 : decode cX9_isCell 10 = .ok (.iload_n 1, 1) := by decide +kernel
theorem dX9_isCell_11 : decode cX9_isCell 11 = .ok (.iconst 0, 1) := by decide +kernel
theorem dX9_isCell_12 : decode cX9_isCell 12 = .ok (.bipush 11, 2) := by decide +kernel
theorem dX9_isCell_14 : decode cX9_isCell 14 = .ok (.invokestatic 114, 3) := by decide +kernel
theorem dX9_isCell_17 : decode cX9_isCell 17 = .ok (.ifCond .eq 7, 3) := by decide +kernel
theorem dX9_isCell_20 : decode cX9_isCell 20 = .ok (.iconst 1, 1) := by decide +kernel
theorem dX9_isCell_21 : decode cX9_isCell 21 = .ok (.goto 4, 3) := by decide +kernel
theorem dX9_isCell_24 : decode cX9_isCell 24 = .ok (.iconst 0, 1) := by decide +kernel
theorem dX9_isCell_25 : decode cX9_isCell 25 = .ok (.ireturn, 1) := by decide +kernel
theorem dX9_isDrawing_0 : decode cX9_isDrawing 0 = .ok (.iload_n 1, 1) := by decide +kernel
theorem dX9_isDrawing_1 : decode cX9_isDrawing 1 = .ok (.iconst 0, 1) := by decide +kernel
theorem dX9_isDrawing_2 : decode cX9_isDrawing 2 = .ok (.aload_n 0, 1) := by decide +kernel
theorem dX9_isDrawing_3 : decode cX9_isDrawing 3 = .ok (.getfield 124, 3) := by decide +kernel
theorem dX9_isDrawing_6 : decode cX9_isDrawing 6 = .ok (.iconst 1, 1) := by decide +kernel
theorem dX9_isDrawing_7 : decode cX9_isDrawing 7 = .ok (.isub, 1) := by decide +kernel
theorem dX9_isDrawing_8 : decode cX9_isDrawing 8 = .ok (.invokestatic 114, 3) := by decide +kernel
theorem dX9_isDrawing_11 : decode cX9_isDrawing 11 = .ok (.ireturn, 1) := by decide +kernel
theorem dX9_size_0 : decode cX9_size 0 = .ok (.iload_n 0, 1) := by decide +kernel
theorem dX9_size_1 : decode cX9_size 1 = .ok (.ifCond .ge 8, 3) := by decide +kernel
theorem dX9_size_4 : decode cX9_size 4 = .ok (.iload_n 0, 1) := by decide +kernel
theorem dX9_size_5 : decode cX9_size 5 = .ok (.ineg, 1) := by decide +kernel
theorem dX9_size_6 : decode cX9_size 6 = .ok (.goto 4, 3) := by decide +kernel
theorem dX9_size_9 : decode cX9_size 9 = .ok (.iload_n 0, 1) := by decide +kernel
theorem dX9_size_10 : decode cX9_size 10 = .ok (.ireturn, 1) := by decide +kernel
theorem dX9_program_0 : decode cX9_program 0 = .ok (.aload_n 0, 1) := by decide +kernel
theorem dX9_program_1 : decode cX9_program 1 = .ok (.aload_n 0, 1) := by decide +kernel
theorem dX9_program_2 : decode cX9_program 2 = .ok (.getfield 111, 3) := by decide +kernel
theorem dX9_program_5 : decode cX9_program 5 = .ok (.bipush 6, 2) := by decide +kernel
theorem dX9_program_7 : decode cX9_program 7 = .ok (.if_icmp .ge 7, 3) := by decide +kernel
theorem dX9_program_10 : decode cX9_program 10 = .ok (.iconst 1, 1) := by decide +kernel
theorem dX9_program_11 : decode cX9_program 11 = .ok (.goto 4, 3) := by decide +kernel
theorem dX9_program_14 : decode cX9_program 14 = .ok (.iconst 0, 1) := by decide +kernel
theorem dX9_program_15 : decode cX9_program 15 = .ok (.iconst 1, 1) := by decide +kernel
theorem dX9_program_16 : decode cX9_program 16 = .ok (.iconst 1, 1) := by decide +kernel
theorem dX9_program_17 : decode cX9_program 17 = .ok (.invokevirtual 127, 3) := by decide +kernel
theorem dX9_program_20 : decode cX9_program 20 = .ok (.ifCond .ne 5, 3) := by decide +kernel
theorem dX9_program_23 : decode cX9_program 23 = .ok (.iconst 0, 1) := by decide +kernel
theorem dX9_program_24 : decode cX9_program 24 = .ok (.ireturn, 1) := by decide +kernel
theorem dX9_program_25 : decode cX9_program 25 = .ok (.aload_n 0, 1) := by decide +kernel
theorem dX9_program_26 : decode cX9_program 26 = .ok (.dup, 1) := by decide +kernel
theorem dX9_program_27 : decode cX9_program 27 = .ok (.getfield 111, 3) := by decide +kernel
theorem dX9_program_30 : decode cX9_program 30 = .ok (.iconst 1, 1) := by decide +kernel
theorem dX9_program_31 : decode cX9_program 31 = .ok (.iadd, 1) := by decide +kernel
theorem dX9_program_32 : decode cX9_program 32 = .ok (.putfield 111, 3) := by decide +kernel
theorem dX9_program_35 : decode cX9_program 35 = .ok (.aload_n 0, 1) := by decide +kernel
theorem dX9_program_36 : decode cX9_program 36 = .ok (.getfield 111, 3) := by decide +kernel
theorem dX9_program_39 : decode cX9_program 39 = .ok (.iconst 1, 1) := by decide +kernel
theorem dX9_program_40 : decode cX9_program 40 = .ok (.isub, 1) := by decide +kernel
theorem dX9_program_41 : decode cX9_program 41 = .ok (.ireturn, 1) := by decide +kernel
theorem dX9_isBlock_0 : decode cX9_isBlock 0 = .ok (.iload_n 1, 1) := by decide +kernel
theorem dX9_isBlock_1 : decode cX9_isBlock 1 = .ok (.tableswitch 62 0 5 #[39, 39, 46, 46, 46, 55], 39) := by decide +kernel
theorem dX9_isBlock_40 : decode cX9_isBlock 40 = .ok (.iload_n 2, 1) := by decide +kernel
theorem dX9_isBlock_41 : decode cX9_isBlock 41 = .ok (.iconst 0, 1) := by decide +kernel
theorem dX9_isBlock_42 : decode cX9_isBlock 42 = .ok (.iconst 1, 1) := by decide +kernel
theorem dX9_isBlock_43 : decode cX9_isBlock 43 = .ok (.invokestatic 114, 3) := by decide +kernel
theorem dX9_isBlock_46 : decode cX9_isBlock 46 = .ok (.ireturn, 1) := by decide +kernel
theorem dX9_isBlock_47 : decode cX9_isBlock 47 = .ok (.iload_n 2, 1) := by decide +kernel
theorem dX9_isBlock_48 : decode cX9_isBlock 48 = .ok (.bipush (-11), 2) := by decide +kernel
theorem dX9_isBlock_50 : decode cX9_isBlock 50 = .ok (.bipush 11, 2) := by decide +kernel
theorem dX9_isBlock_52 : decode cX9_isBlock 52 = .ok (.invokestatic 114, 3) := by decide +kernel
theorem dX9_isBlock_55 : decode cX9_isBlock 55 = .ok (.ireturn, 1) := by decide +kernel
theorem dX9_isBlock_56 : decode cX9_isBlock 56 = .ok (.iload_n 2, 1) := by decide +kernel
theorem dX9_isBlock_57 : decode cX9_isBlock 57 = .ok (.iconst 0, 1) := by decide +kernel
theorem dX9_isBlock_58 : decode cX9_isBlock 58 = .ok (.iconst 3, 1) := by decide +kernel
theorem dX9_isBlock_59 : decode cX9_isBlock 59 = .ok (.invokestatic 114, 3) := by decide +kernel
theorem dX9_isBlock_62 : decode cX9_isBlock 62 = .ok (.ireturn, 1) := by decide +kernel
theorem dX9_isBlock_63 : decode cX9_isBlock 63 = .ok (.iload_n 1, 1) := by decide +kernel
theorem dX9_isBlock_64 : decode cX9_isBlock 64 = .ok (.bipush 6, 2) := by decide +kernel
theorem dX9_isBlock_66 : decode cX9_isBlock 66 = .ok (.if_icmp .ne 18, 3) := by decide +kernel
theorem dX9_isBlock_69 : decode cX9_isBlock 69 = .ok (.iload_n 2, 1) := by decide +kernel
theorem dX9_isBlock_70 : decode cX9_isBlock 70 = .ok (.iconst 0, 1) := by decide +kernel
theorem dX9_isBlock_71 : decode cX9_isBlock 71 = .ok (.iload_n 0, 1) := by decide +kernel
theorem dX9_isBlock_72 : decode cX9_isBlock 72 = .ok (.iconst 1, 1) := by decide +kernel
theorem dX9_isBlock_73 : decode cX9_isBlock 73 = .ok (.isub, 1) := by decide +kernel
theorem dX9_isBlock_74 : decode cX9_isBlock 74 = .ok (.invokestatic 114, 3) := by decide +kernel
theorem dX9_isBlock_77 : decode cX9_isBlock 77 = .ok (.ifCond .eq 7, 3) := by decide +kernel
theorem dX9_isBlock_80 : decode cX9_isBlock 80 = .ok (.iconst 1, 1) := by decide +kernel
theorem dX9_isBlock_81 : decode cX9_isBlock 81 = .ok (.goto 4, 3) := by decide +kernel
theorem dX9_isBlock_84 : decode cX9_isBlock 84 = .ok (.iconst 0, 1) := by decide +kernel
theorem dX9_isBlock_85 : decode cX9_isBlock 85 = .ok (.ireturn, 1) := by decide +kernel
theorem dX9_block_0 : decode cX9_block 0 = .ok (.aload_n 0, 1) := by decide +kernel
theorem dX9_block_1 : decode cX9_block 1 = .ok (.iload_n 1, 1) := by decide +kernel
theorem dX9_block_2 : decode cX9_block 2 = .ok (.invokevirtual 131, 3) := by decide +kernel
theorem dX9_block_5 : decode cX9_block 5 = .ok (.istore 4, 2) := by decide +kernel
theorem dX9_block_7 : decode cX9_block 7 = .ok (.aload_n 0, 1) := by decide +kernel
theorem dX9_block_8 : decode cX9_block 8 = .ok (.iload 4, 2) := by decide +kernel
theorem dX9_block_10 : decode cX9_block 10 = .ok (.iload_n 1, 1) := by decide +kernel
theorem dX9_block_11 : decode cX9_block 11 = .ok (.iload_n 2, 1) := by decide +kernel
theorem dX9_block_12 : decode cX9_block 12 = .ok (.iload_n 3, 1) := by decide +kernel
theorem dX9_block_13 : decode cX9_block 13 = .ok (.invokestatic 135, 3) := by decide +kernel
theorem dX9_block_16 : decode cX9_block 16 = .ok (.iload 4, 2) := by decide +kernel
theorem dX9_block_18 : decode cX9_block 18 = .ok (.ifCond .eq 25, 3) := by decide +kernel
theorem dX9_block_21 : decode cX9_block 21 = .ok (.aload_n 0, 1) := by decide +kernel
theorem dX9_block_22 : decode cX9_block 22 = .ok (.getfield 13, 3) := by decide +kernel
theorem dX9_block_25 : decode cX9_block 25 = .ok (.iload_n 1, 1) := by decide +kernel
theorem dX9_block_26 : decode cX9_block 26 = .ok (.iaload, 1) := by decide +kernel
theorem dX9_block_27 : decode cX9_block 27 = .ok (.bipush 30, 2) := by decide +kernel
theorem dX9_block_29 : decode cX9_block 29 = .ok (.if_icmp .ge 14, 3) := by decide +kernel
theorem dX9_block_32 : decode cX9_block 32 = .ok (.aload_n 0, 1) := by decide +kernel
theorem dX9_block_33 : decode cX9_block 33 = .ok (.getfield 138, 3) := by decide +kernel
theorem dX9_block_36 : decode cX9_block 36 = .ok (.ifCond .ne 7, 3) := by decide +kernel
theorem dX9_block_39 : decode cX9_block 39 = .ok (.iconst 1, 1) := by decide +kernel
theorem dX9_block_40 : decode cX9_block 40 = .ok (.goto 4, 3) := by decide +kernel
theorem dX9_block_43 : decode cX9_block 43 = .ok (.iconst 0, 1) := by decide +kernel
theorem dX9_block_44 : decode cX9_block 44 = .ok (.invokevirtual 127, 3) := by decide +kernel
theorem dX9_block_47 : decode cX9_block 47 = .ok (.ifCond .ne 5, 3) := by decide +kernel
theorem dX9_block_50 : decode cX9_block 50 = .ok (.iconst 0, 1) := by decide +kernel
theorem dX9_block_51 : decode cX9_block 51 = .ok (.ireturn, 1) := by decide +kernel
theorem dX9_block_52 : decode cX9_block 52 = .ok (.aload_n 0, 1) := by decide +kernel
theorem dX9_block_53 : decode cX9_block 53 = .ok (.getfield 7, 3) := by decide +kernel
theorem dX9_block_56 : decode cX9_block 56 = .ok (.bipush 60, 2) := by decide +kernel
theorem dX9_block_58 : decode cX9_block 58 = .ok (.iload_n 1, 1) := by decide +kernel
theorem dX9_block_59 : decode cX9_block 59 = .ok (.imul, 1) := by decide +kernel
theorem dX9_block_60 : decode cX9_block 60 = .ok (.iconst 2, 1) := by decide +kernel
theorem dX9_block_61 : decode cX9_block 61 = .ok (.aload_n 0, 1) := by decide +kernel
theorem dX9_block_62 : decode cX9_block 62 = .ok (.getfield 13, 3) := by decide +kernel
theorem dX9_block_65 : decode cX9_block 65 = .ok (.iload_n 1, 1) := by decide +kernel
theorem dX9_block_66 : decode cX9_block 66 = .ok (.iaload, 1) := by decide +kernel
theorem dX9_block_67 : decode cX9_block 67 = .ok (.imul, 1) := by decide +kernel
theorem dX9_block_68 : decode cX9_block 68 = .ok (.iadd, 1) := by decide +kernel
theorem dX9_block_69 : decode cX9_block 69 = .ok (.iload_n 2, 1) := by decide +kernel
theorem dX9_block_70 : decode cX9_block 70 = .ok (.iastore, 1) := by decide +kernel
theorem dX9_block_71 : decode cX9_block 71 = .ok (.aload_n 0, 1) := by decide +kernel
theorem dX9_block_72 : decode cX9_block 72 = .ok (.getfield 7, 3) := by decide +kernel
theorem dX9_block_75 : decode cX9_block 75 = .ok (.bipush 60, 2) := by decide +kernel
theorem dX9_block_77 : decode cX9_block 77 = .ok (.iload_n 1, 1) := by decide +kernel
theorem dX9_block_78 : decode cX9_block 78 = .ok (.imul, 1) := by decide +kernel
theorem dX9_block_79 : decode cX9_block 79 = .ok (.iconst 2, 1) := by decide +kernel
theorem dX9_block_80 : decode cX9_block 80 = .ok (.aload_n 0, 1) := by decide +kernel
theorem dX9_block_81 : decode cX9_block 81 = .ok (.getfield 13, 3) := by decide +kernel
theorem dX9_block_84 : decode cX9_block 84 = .ok (.iload_n 1, 1) := by decide +kernel
theorem dX9_block_85 : decode cX9_block 85 = .ok (.iaload, 1) := by decide +kernel
theorem dX9_block_86 : decode cX9_block 86 = .ok (.imul, 1) := by decide +kernel
theorem dX9_block_87 : decode cX9_block 87 = .ok (.iadd, 1) := by decide +kernel
theorem dX9_block_88 : decode cX9_block 88 = .ok (.iconst 1, 1) := by decide +kernel
theorem dX9_block_89 : decode cX9_block 89 = .ok (.iadd, 1) := by decide +kernel
theorem dX9_block_90 : decode cX9_block 90 = .ok (.iload_n 3, 1) := by decide +kernel
theorem dX9_block_91 : decode cX9_block 91 = .ok (.iastore, 1) := by decide +kernel
theorem dX9_block_92 : decode cX9_block 92 = .ok (.aload_n 0, 1) := by decide +kernel
theorem dX9_block_93 : decode cX9_block 93 = .ok (.getfield 13, 3) := by decide +kernel
theorem dX9_block_96 : decode cX9_block 96 = .ok (.iload_n 1, 1) := by decide +kernel
theorem dX9_block_97 : decode cX9_block 97 = .ok (.dup2, 1) := by decide +kernel
theorem dX9_block_98 : decode cX9_block 98 = .ok (.iaload, 1) := by decide +kernel
theorem dX9_block_99 : decode cX9_block 99 = .ok (.iconst 1, 1) := by decide +kernel
theorem dX9_block_100 : decode cX9_block 100 = .ok (.iadd, 1) := by decide +kernel
theorem dX9_block_101 : decode cX9_block 101 = .ok (.iastore, 1) := by decide +kernel
theorem dX9_block_102 : decode cX9_block 102 = .ok (.aload_n 0, 1) := by decide +kernel
theorem dX9_block_103 : decode cX9_block 103 = .ok (.getfield 13, 3) := by decide +kernel
theorem dX9_block_106 : decode cX9_block 106 = .ok (.iload_n 1, 1) := by decide +kernel
theorem dX9_block_107 : decode cX9_block 107 = .ok (.iaload, 1) := by decide +kernel
theorem dX9_block_108 : decode cX9_block 108 = .ok (.ireturn, 1) := by decide +kernel
theorem dX9_map_0 : decode cX9_map 0 = .ok (.aload_n 0, 1) := by decide +kernel
theorem dX9_map_1 : decode cX9_map 1 = .ok (.iload_n 1, 1) := by decide +kernel
theorem dX9_map_2 : decode cX9_map 2 = .ok (.iconst 0, 1) := by decide +kernel
theorem dX9_map_3 : decode cX9_map 3 = .ok (.bipush 11, 2) := by decide +kernel
theorem dX9_map_5 : decode cX9_map 5 = .ok (.invokestatic 114, 3) := by decide +kernel
theorem dX9_map_8 : decode cX9_map 8 = .ok (.ifCond .eq 18, 3) := by decide +kernel
theorem dX9_map_11 : decode cX9_map 11 = .ok (.iload_n 2, 1) := by decide +kernel
theorem dX9_map_12 : decode cX9_map 12 = .ok (.bipush (-50), 2) := by decide +kernel
theorem dX9_map_14 : decode cX9_map 14 = .ok (.bipush 50, 2) := by decide +kernel
theorem dX9_map_16 : decode cX9_map 16 = .ok (.invokestatic 114, 3) := by decide +kernel
theorem dX9_map_19 : decode cX9_map 19 = .ok (.ifCond .eq 7, 3) := by decide +kernel
theorem dX9_map_22 : decode cX9_map 22 = .ok (.iconst 1, 1) := by decide +kernel
theorem dX9_map_23 : decode cX9_map 23 = .ok (.goto 4, 3) := by decide +kernel
theorem dX9_map_26 : decode cX9_map 26 = .ok (.iconst 0, 1) := by decide +kernel
theorem dX9_map_27 : decode cX9_map 27 = .ok (.iconst 1, 1) := by decide +kernel
theorem dX9_map_28 : decode cX9_map 28 = .ok (.iconst 1, 1) := by decide +kernel
theorem dX9_map_29 : decode cX9_map 29 = .ok (.invokevirtual 127, 3) := by decide +kernel
theorem dX9_map_32 : decode cX9_map 32 = .ok (.ifCond .ne 5, 3) := by decide +kernel
theorem dX9_map_35 : decode cX9_map 35 = .ok (.iconst 0, 1) := by decide +kernel
theorem dX9_map_36 : decode cX9_map 36 = .ok (.ireturn, 1) := by decide +kernel
theorem dX9_map_37 : decode cX9_map 37 = .ok (.aload_n 0, 1) := by decide +kernel
theorem dX9_map_38 : decode cX9_map 38 = .ok (.getfield 16, 3) := by decide +kernel
theorem dX9_map_41 : decode cX9_map 41 = .ok (.iload_n 1, 1) := by decide +kernel
theorem dX9_map_42 : decode cX9_map 42 = .ok (.iaload, 1) := by decide +kernel
theorem dX9_map_43 : decode cX9_map 43 = .ok (.istore_n 3, 1) := by decide +kernel
theorem dX9_map_44 : decode cX9_map 44 = .ok (.aload_n 0, 1) := by decide +kernel
theorem dX9_map_45 : decode cX9_map 45 = .ok (.getfield 16, 3) := by decide +kernel
theorem dX9_map_48 : decode cX9_map 48 = .ok (.iload_n 1, 1) := by decide +kernel
theorem dX9_map_49 : decode cX9_map 49 = .ok (.iload_n 2, 1) := by decide +kernel
theorem dX9_map_50 : decode cX9_map 50 = .ok (.iastore, 1) := by decide +kernel
theorem dX9_map_51 : decode cX9_map 51 = .ok (.iload_n 3, 1) := by decide +kernel
theorem dX9_map_52 : decode cX9_map 52 = .ok (.ireturn, 1) := by decide +kernel
theorem dX9_tool_0 : decode cX9_tool 0 = .ok (.aload_n 0, 1) := by decide +kernel
theorem dX9_tool_1 : decode cX9_tool 1 = .ok (.iload_n 1, 1) := by decide +kernel
theorem dX9_tool_2 : decode cX9_tool 2 = .ok (.iconst 0, 1) := by decide +kernel
theorem dX9_tool_3 : decode cX9_tool 3 = .ok (.iconst 3, 1) := by decide +kernel
theorem dX9_tool_4 : decode cX9_tool 4 = .ok (.invokestatic 114, 3) := by decide +kernel
theorem dX9_tool_7 : decode cX9_tool 7 = .ok (.ifCond .eq 18, 3) := by decide +kernel
theorem dX9_tool_10 : decode cX9_tool 10 = .ok (.iload_n 2, 1) := by decide +kernel
theorem dX9_tool_11 : decode cX9_tool 11 = .ok (.iconst 1, 1) := by decide +kernel
theorem dX9_tool_12 : decode cX9_tool 12 = .ok (.sipush 500, 3) := by decide +kernel
theorem dX9_tool_15 : decode cX9_tool 15 = .ok (.invokestatic 114, 3) := by decide +kernel
theorem dX9_tool_18 : decode cX9_tool 18 = .ok (.ifCond .eq 7, 3) := by decide +kernel
theorem dX9_tool_21 : decode cX9_tool 21 = .ok (.iconst 1, 1) := by decide +kernel
theorem dX9_tool_22 : decode cX9_tool 22 = .ok (.goto 4, 3) := by decide +kernel
theorem dX9_tool_25 : decode cX9_tool 25 = .ok (.iconst 0, 1) := by decide +kernel
theorem dX9_tool_26 : decode cX9_tool 26 = .ok (.aload_n 0, 1) := by decide +kernel
theorem dX9_tool_27 : decode cX9_tool 27 = .ok (.getfield 118, 3) := by decide +kernel
theorem dX9_tool_30 : decode cX9_tool 30 = .ok (.bipush 16, 2) := by decide +kernel
theorem dX9_tool_32 : decode cX9_tool 32 = .ok (.if_icmp .ge 7, 3) := by decide +kernel
theorem dX9_tool_35 : decode cX9_tool 35 = .ok (.iconst 1, 1) := by decide +kernel
theorem dX9_tool_36 : decode cX9_tool 36 = .ok (.goto 4, 3) := by decide +kernel
theorem dX9_tool_39 : decode cX9_tool 39 = .ok (.iconst 0, 1) := by decide +kernel
theorem dX9_tool_40 : decode cX9_tool 40 = .ok (.iconst 1, 1) := by decide +kernel
theorem dX9_tool_41 : decode cX9_tool 41 = .ok (.invokevirtual 127, 3) := by decide +kernel
theorem dX9_tool_44 : decode cX9_tool 44 = .ok (.ifCond .ne 5, 3) := by decide +kernel
theorem dX9_tool_47 : decode cX9_tool 47 = .ok (.iconst 0, 1) := by decide +kernel
theorem dX9_tool_48 : decode cX9_tool 48 = .ok (.ireturn, 1) := by decide +kernel
theorem dX9_tool_49 : decode cX9_tool 49 = .ok (.aload_n 0, 1) := by decide +kernel
theorem dX9_tool_50 : decode cX9_tool 50 = .ok (.getfield 19, 3) := by decide +kernel
theorem dX9_tool_53 : decode cX9_tool 53 = .ok (.aload_n 0, 1) := by decide +kernel
theorem dX9_tool_54 : decode cX9_tool 54 = .ok (.getfield 118, 3) := by decide +kernel
theorem dX9_tool_57 : decode cX9_tool 57 = .ok (.iload_n 1, 1) := by decide +kernel
theorem dX9_tool_58 : decode cX9_tool 58 = .ok (.iastore, 1) := by decide +kernel
theorem dX9_tool_59 : decode cX9_tool 59 = .ok (.aload_n 0, 1) := by decide +kernel
theorem dX9_tool_60 : decode cX9_tool 60 = .ok (.getfield 22, 3) := by decide +kernel
theorem dX9_tool_63 : decode cX9_tool 63 = .ok (.aload_n 0, 1) := by decide +kernel
theorem dX9_tool_64 : decode cX9_tool 64 = .ok (.getfield 118, 3) := by decide +kernel
theorem dX9_tool_67 : decode cX9_tool 67 = .ok (.iload_n 2, 1) := by decide +kernel
theorem dX9_tool_68 : decode cX9_tool 68 = .ok (.iastore, 1) := by decide +kernel
theorem dX9_tool_69 : decode cX9_tool 69 = .ok (.aload_n 0, 1) := by decide +kernel
theorem dX9_tool_70 : decode cX9_tool 70 = .ok (.dup, 1) := by decide +kernel
theorem dX9_tool_71 : decode cX9_tool 71 = .ok (.getfield 118, 3) := by decide +kernel
theorem dX9_tool_74 : decode cX9_tool 74 = .ok (.iconst 1, 1) := by decide +kernel
theorem dX9_tool_75 : decode cX9_tool 75 = .ok (.iadd, 1) := by decide +kernel
theorem dX9_tool_76 : decode cX9_tool 76 = .ok (.putfield 118, 3) := by decide +kernel
theorem dX9_tool_79 : decode cX9_tool 79 = .ok (.aload_n 0, 1) := by decide +kernel
theorem dX9_tool_80 : decode cX9_tool 80 = .ok (.getfield 118, 3) := by decide +kernel
theorem dX9_tool_83 : decode cX9_tool 83 = .ok (.iconst 1, 1) := by decide +kernel
theorem dX9_tool_84 : decode cX9_tool 84 = .ok (.isub, 1) := by decide +kernel
theorem dX9_tool_85 : decode cX9_tool 85 = .ok (.ireturn, 1) := by decide +kernel
theorem dX9_countLoaded_0 : decode cX9_countLoaded 0 = .ok (.iconst 0, 1) := by decide +kernel
theorem dX9_countLoaded_1 : decode cX9_countLoaded 1 = .ok (.istore_n 1, 1) := by decide +kernel
theorem dX9_countLoaded_2 : decode cX9_countLoaded 2 = .ok (.iconst 0, 1) := by decide +kernel
theorem dX9_countLoaded_3 : decode cX9_countLoaded 3 = .ok (.istore_n 2, 1) := by decide +kernel
theorem dX9_countLoaded_4 : decode cX9_countLoaded 4 = .ok (.iload_n 2, 1) := by decide +kernel
theorem dX9_countLoaded_5 : decode cX9_countLoaded 5 = .ok (.aload_n 0, 1) := by decide +kernel
theorem dX9_countLoaded_6 : decode cX9_countLoaded 6 = .ok (.getfield 118, 3) := by decide +kernel
theorem dX9_countLoaded_9 : decode cX9_countLoaded 9 = .ok (.if_icmp .ge 26, 3) := by decide +kernel
theorem dX9_countLoaded_12 : decode cX9_countLoaded 12 = .ok (.iload_n 1, 1) := by decide +kernel
theorem dX9_countLoaded_13 : decode cX9_countLoaded 13 = .ok (.aload_n 0, 1) := by decide +kernel
theorem dX9_countLoaded_14 : decode cX9_countLoaded 14 = .ok (.getfield 34, 3) := by decide +kernel
theorem dX9_countLoaded_17 : decode cX9_countLoaded 17 = .ok (.iload_n 2, 1) := by decide +kernel
theorem dX9_countLoaded_18 : decode cX9_countLoaded 18 = .ok (.baload, 1) := by decide +kernel
theorem dX9_countLoaded_19 : decode cX9_countLoaded 19 = .ok (.ifCond .eq 7, 3) := by decide +kernel
theorem dX9_countLoaded_22 : decode cX9_countLoaded 22 = .ok (.iconst 1, 1) := by decide +kernel
theorem dX9_countLoaded_23 : decode cX9_countLoaded 23 = .ok (.goto 4, 3) := by decide +kernel
theorem dX9_countLoaded_26 : decode cX9_countLoaded 26 = .ok (.iconst 0, 1) := by decide +kernel
theorem dX9_countLoaded_27 : decode cX9_countLoaded 27 = .ok (.iadd, 1) := by decide +kernel
theorem dX9_countLoaded_28 : decode cX9_countLoaded 28 = .ok (.istore_n 1, 1) := by decide +kernel
theorem dX9_countLoaded_29 : decode cX9_countLoaded 29 = .ok (.iinc 2 1, 3) := by decide +kernel
theorem dX9_countLoaded_32 : decode cX9_countLoaded 32 = .ok (.goto (-28), 3) := by decide +kernel
theorem dX9_countLoaded_35 : decode cX9_countLoaded 35 = .ok (.iload_n 1, 1) := by decide +kernel
theorem dX9_countLoaded_36 : decode cX9_countLoaded 36 = .ok (.ireturn, 1) := by decide +kernel
theorem dX9_load_0 : decode cX9_load 0 = .ok (.aload_n 0, 1) := by decide +kernel
theorem dX9_load_1 : decode cX9_load 1 = .ok (.iload_n 1, 1) := by decide +kernel
theorem dX9_load_2 : decode cX9_load 2 = .ok (.invokevirtual 141, 3) := by decide +kernel
theorem dX9_load_5 : decode cX9_load 5 = .ok (.istore_n 3, 1) := by decide +kernel
theorem dX9_load_6 : decode cX9_load 6 = .ok (.aload_n 0, 1) := by decide +kernel
theorem dX9_load_7 : decode cX9_load 7 = .ok (.iload_n 3, 1) := by decide +kernel
theorem dX9_load_8 : decode cX9_load 8 = .ok (.iload_n 3, 1) := by decide +kernel
theorem dX9_load_9 : decode cX9_load 9 = .ok (.ifCond .eq 29, 3) := by decide +kernel
theorem dX9_load_12 : decode cX9_load 12 = .ok (.iload_n 2, 1) := by decide +kernel
theorem dX9_load_13 : decode cX9_load 13 = .ok (.ifCond .eq 21, 3) := by decide +kernel
theorem dX9_load_16 : decode cX9_load 16 = .ok (.aload_n 0, 1) := by decide +kernel
theorem dX9_load_17 : decode cX9_load 17 = .ok (.getfield 34, 3) := by decide +kernel
theorem dX9_load_20 : decode cX9_load 20 = .ok (.iload_n 1, 1) := by decide +kernel
theorem dX9_load_21 : decode cX9_load 21 = .ok (.baload, 1) := by decide +kernel
theorem dX9_load_22 : decode cX9_load 22 = .ok (.ifCond .ne 12, 3) := by decide +kernel
theorem dX9_load_25 : decode cX9_load 25 = .ok (.aload_n 0, 1) := by decide +kernel
theorem dX9_load_26 : decode cX9_load 26 = .ok (.invokevirtual 144, 3) := by decide +kernel
theorem dX9_load_29 : decode cX9_load 29 = .ok (.bipush 6, 2) := by decide +kernel
theorem dX9_load_31 : decode cX9_load 31 = .ok (.if_icmp .ge 7, 3) := by decide +kernel
theorem dX9_load_34 : decode cX9_load 34 = .ok (.iconst 1, 1) := by decide +kernel
theorem dX9_load_35 : decode cX9_load 35 = .ok (.goto 4, 3) := by decide +kernel
theorem dX9_load_38 : decode cX9_load 38 = .ok (.iconst 0, 1) := by decide +kernel
theorem dX9_load_39 : decode cX9_load 39 = .ok (.iconst 1, 1) := by decide +kernel
theorem dX9_load_40 : decode cX9_load 40 = .ok (.invokevirtual 127, 3) := by decide +kernel
theorem dX9_load_43 : decode cX9_load 43 = .ok (.ifCond .ne 5, 3) := by decide +kernel
theorem dX9_load_46 : decode cX9_load 46 = .ok (.iconst 0, 1) := by decide +kernel
theorem dX9_load_47 : decode cX9_load 47 = .ok (.ireturn, 1) := by decide +kernel
theorem dX9_load_48 : decode cX9_load 48 = .ok (.aload_n 0, 1) := by decide +kernel
theorem dX9_load_49 : decode cX9_load 49 = .ok (.getfield 34, 3) := by decide +kernel
theorem dX9_load_52 : decode cX9_load 52 = .ok (.iload_n 1, 1) := by decide +kernel
theorem dX9_load_53 : decode cX9_load 53 = .ok (.iload_n 2, 1) := by decide +kernel
theorem dX9_load_54 : decode cX9_load 54 = .ok (.bastore, 1) := by decide +kernel
theorem dX9_load_55 : decode cX9_load 55 = .ok (.aload_n 0, 1) := by decide +kernel
theorem dX9_load_56 : decode cX9_load 56 = .ok (.invokevirtual 144, 3) := by decide +kernel
theorem dX9_load_59 : decode cX9_load 59 = .ok (.ireturn, 1) := by decide +kernel
theorem dX9_pallet_0 : decode cX9_pallet 0 = .ok (.aload_n 0, 1) := by decide +kernel
theorem dX9_pallet_1 : decode cX9_pallet 1 = .ok (.iload_n 1, 1) := by decide +kernel
theorem dX9_pallet_2 : decode cX9_pallet 2 = .ok (.iconst 1, 1) := by decide +kernel
theorem dX9_pallet_3 : decode cX9_pallet 3 = .ok (.bipush 9, 2) := by decide +kernel
theorem dX9_pallet_5 : decode cX9_pallet 5 = .ok (.invokestatic 114, 3) := by decide +kernel
theorem dX9_pallet_8 : decode cX9_pallet 8 = .ok (.aload_n 0, 1) := by decide +kernel
theorem dX9_pallet_9 : decode cX9_pallet 9 = .ok (.getfield 121, 3) := by decide +kernel
theorem dX9_pallet_12 : decode cX9_pallet 12 = .ok (.bipush 6, 2) := by decide +kernel
theorem dX9_pallet_14 : decode cX9_pallet 14 = .ok (.if_icmp .ge 7, 3) := by decide +kernel
theorem dX9_pallet_17 : decode cX9_pallet 17 = .ok (.iconst 1, 1) := by decide +kernel
theorem dX9_pallet_18 : decode cX9_pallet 18 = .ok (.goto 4, 3) := by decide +kernel
theorem dX9_pallet_21 : decode cX9_pallet 21 = .ok (.iconst 0, 1) := by decide +kernel
theorem dX9_pallet_22 : decode cX9_pallet 22 = .ok (.iconst 1, 1) := by decide +kernel
theorem dX9_pallet_23 : decode cX9_pallet 23 = .ok (.invokevirtual 127, 3) := by decide +kernel
theorem dX9_pallet_26 : decode cX9_pallet 26 = .ok (.ifCond .ne 5, 3) := by decide +kernel
theorem dX9_pallet_29 : decode cX9_pallet 29 = .ok (.iconst 0, 1) := by decide +kernel
theorem dX9_pallet_30 : decode cX9_pallet 30 = .ok (.ireturn, 1) := by decide +kernel
theorem dX9_pallet_31 : decode cX9_pallet 31 = .ok (.sipush 144, 3) := by decide +kernel
theorem dX9_pallet_34 : decode cX9_pallet 34 = .ok (.aload_n 0, 1) := by decide +kernel
theorem dX9_pallet_35 : decode cX9_pallet 35 = .ok (.getfield 121, 3) := by decide +kernel
theorem dX9_pallet_38 : decode cX9_pallet 38 = .ok (.imul, 1) := by decide +kernel
theorem dX9_pallet_39 : decode cX9_pallet 39 = .ok (.istore_n 2, 1) := by decide +kernel
theorem dX9_pallet_40 : decode cX9_pallet 40 = .ok (.iload_n 2, 1) := by decide +kernel
theorem dX9_pallet_41 : decode cX9_pallet 41 = .ok (.sipush 144, 3) := by decide +kernel
theorem dX9_pallet_44 : decode cX9_pallet 44 = .ok (.aload_n 0, 1) := by decide +kernel
theorem dX9_pallet_45 : decode cX9_pallet 45 = .ok (.getfield 121, 3) := by decide +kernel
theorem dX9_pallet_48 : decode cX9_pallet 48 = .ok (.imul, 1) := by decide +kernel
theorem dX9_pallet_49 : decode cX9_pallet 49 = .ok (.sipush 144, 3) := by decide +kernel
theorem dX9_pallet_52 : decode cX9_pallet 52 = .ok (.iadd, 1) := by decide +kernel
theorem dX9_pallet_53 : decode cX9_pallet 53 = .ok (.if_icmp .ge 23, 3) := by decide +kernel
theorem dX9_pallet_56 : decode cX9_pallet 56 = .ok (.aload_n 0, 1) := by decide +kernel
theorem dX9_pallet_57 : decode cX9_pallet 57 = .ok (.getfield 44, 3) := by decide +kernel
theorem dX9_pallet_60 : decode cX9_pallet 60 = .ok (.iload_n 2, 1) := by decide +kernel
theorem dX9_pallet_61 : decode cX9_pallet 61 = .ok (.iload_n 1, 1) := by decide +kernel
theorem dX9_pallet_62 : decode cX9_pallet 62 = .ok (.iastore, 1) := by decide +kernel
theorem dX9_pallet_63 : decode cX9_pallet 63 = .ok (.aload_n 0, 1) := by decide +kernel
theorem dX9_pallet_64 : decode cX9_pallet 64 = .ok (.getfield 50, 3) := by decide +kernel
theorem dX9_pallet_67 : decode cX9_pallet 67 = .ok (.iload_n 2, 1) := by decide +kernel
theorem dX9_pallet_68 : decode cX9_pallet 68 = .ok (.iconst (-1), 1) := by decide +kernel
theorem dX9_pallet_69 : decode cX9_pallet 69 = .ok (.iastore, 1) := by decide +kernel
theorem dX9_pallet_70 : decode cX9_pallet 70 = .ok (.iinc 2 1, 3) := by decide +kernel
theorem dX9_pallet_73 : decode cX9_pallet 73 = .ok (.goto (-33), 3) := by decide +kernel
theorem dX9_pallet_76 : decode cX9_pallet 76 = .ok (.aload_n 0, 1) := by decide +kernel
theorem dX9_pallet_77 : decode cX9_pallet 77 = .ok (.getfield 68, 3) := by decide +kernel
theorem dX9_pallet_80 : decode cX9_pallet 80 = .ok (.aload_n 0, 1) := by decide +kernel
theorem dX9_pallet_81 : decode cX9_pallet 81 = .ok (.getfield 121, 3) := by decide +kernel
theorem dX9_pallet_84 : decode cX9_pallet 84 = .ok (.iconst (-1), 1) := by decide +kernel
theorem dX9_pallet_85 : decode cX9_pallet 85 = .ok (.iastore, 1) := by decide +kernel
theorem dX9_pallet_86 : decode cX9_pallet 86 = .ok (.aload_n 0, 1) := by decide +kernel
theorem dX9_pallet_87 : decode cX9_pallet 87 = .ok (.dup, 1) := by decide +kernel
theorem dX9_pallet_88 : decode cX9_pallet 88 = .ok (.getfield 121, 3) := by decide +kernel
theorem dX9_pallet_91 : decode cX9_pallet 91 = .ok (.iconst 1, 1) := by decide +kernel
theorem dX9_pallet_92 : decode cX9_pallet 92 = .ok (.iadd, 1) := by decide +kernel
theorem dX9_pallet_93 : decode cX9_pallet 93 = .ok (.putfield 121, 3) := by decide +kernel
theorem dX9_pallet_96 : decode cX9_pallet 96 = .ok (.aload_n 0, 1) := by decide +kernel
theorem dX9_pallet_97 : decode cX9_pallet 97 = .ok (.getfield 121, 3) := by decide +kernel
theorem dX9_pallet_100 : decode cX9_pallet 100 = .ok (.iconst 1, 1) := by decide +kernel
theorem dX9_pallet_101 : decode cX9_pallet 101 = .ok (.isub, 1) := by decide +kernel
theorem dX9_pallet_102 : decode cX9_pallet 102 = .ok (.ireturn, 1) := by decide +kernel
theorem dX9_clamp_0 : decode cX9_clamp 0 = .ok (.aload_n 0, 1) := by decide +kernel
theorem dX9_clamp_1 : decode cX9_clamp 1 = .ok (.iload_n 1, 1) := by decide +kernel
theorem dX9_clamp_2 : decode cX9_clamp 2 = .ok (.invokevirtual 148, 3) := by decide +kernel
theorem dX9_clamp_5 : decode cX9_clamp 5 = .ok (.ifCond .eq 15, 3) := by decide +kernel
theorem dX9_clamp_8 : decode cX9_clamp 8 = .ok (.iload_n 2, 1) := by decide +kernel
theorem dX9_clamp_9 : decode cX9_clamp 9 = .ok (.iload_n 3, 1) := by decide +kernel
theorem dX9_clamp_10 : decode cX9_clamp 10 = .ok (.invokestatic 151, 3) := by decide +kernel
theorem dX9_clamp_13 : decode cX9_clamp 13 = .ok (.ifCond .eq 7, 3) := by decide +kernel
theorem dX9_clamp_16 : decode cX9_clamp 16 = .ok (.iconst 1, 1) := by decide +kernel
theorem dX9_clamp_17 : decode cX9_clamp 17 = .ok (.goto 4, 3) := by decide +kernel
theorem dX9_clamp_20 : decode cX9_clamp 20 = .ok (.iconst 0, 1) := by decide +kernel
theorem dX9_clamp_21 : decode cX9_clamp 21 = .ok (.istore 5, 2) := by decide +kernel
theorem dX9_clamp_23 : decode cX9_clamp 23 = .ok (.iload 5, 2) := by decide +kernel
theorem dX9_clamp_25 : decode cX9_clamp 25 = .ok (.ifCond .eq 18, 3) := by decide +kernel
theorem dX9_clamp_28 : decode cX9_clamp 28 = .ok (.sipush 144, 3) := by decide +kernel
theorem dX9_clamp_31 : decode cX9_clamp 31 = .ok (.iload_n 1, 1) := by decide +kernel
theorem dX9_clamp_32 : decode cX9_clamp 32 = .ok (.imul, 1) := by decide +kernel
theorem dX9_clamp_33 : decode cX9_clamp 33 = .ok (.bipush 12, 2) := by decide +kernel
theorem dX9_clamp_35 : decode cX9_clamp 35 = .ok (.iload_n 3, 1) := by decide +kernel
theorem dX9_clamp_36 : decode cX9_clamp 36 = .ok (.imul, 1) := by decide +kernel
theorem dX9_clamp_37 : decode cX9_clamp 37 = .ok (.iadd, 1) := by decide +kernel
theorem dX9_clamp_38 : decode cX9_clamp 38 = .ok (.iload_n 2, 1) := by decide +kernel
theorem dX9_clamp_39 : decode cX9_clamp 39 = .ok (.iadd, 1) := by decide +kernel
theorem dX9_clamp_40 : decode cX9_clamp 40 = .ok (.goto 4, 3) := by decide +kernel
theorem dX9_clamp_43 : decode cX9_clamp 43 = .ok (.iconst 0, 1) := by decide +kernel
theorem dX9_clamp_44 : decode cX9_clamp 44 = .ok (.istore 6, 2) := by decide +kernel
theorem dX9_clamp_46 : decode cX9_clamp 46 = .ok (.iload 5, 2) := by decide +kernel
theorem dX9_clamp_48 : decode cX9_clamp 48 = .ok (.ifCond .eq 36, 3) := by decide +kernel
theorem dX9_clamp_51 : decode cX9_clamp 51 = .ok (.aload_n 0, 1) := by decide +kernel
theorem dX9_clamp_52 : decode cX9_clamp 52 = .ok (.getfield 59, 3) := by decide +kernel
theorem dX9_clamp_55 : decode cX9_clamp 55 = .ok (.iload_n 1, 1) := by decide +kernel
theorem dX9_clamp_56 : decode cX9_clamp 56 = .ok (.iaload, 1) := by decide +kernel
theorem dX9_clamp_57 : decode cX9_clamp 57 = .ok (.ifCond .ne 27, 3) := by decide +kernel
theorem dX9_clamp_60 : decode cX9_clamp 60 = .ok (.aload_n 0, 1) := by decide +kernel
theorem dX9_clamp_61 : decode cX9_clamp 61 = .ok (.getfield 47, 3) := by decide +kernel
theorem dX9_clamp_64 : decode cX9_clamp 64 = .ok (.iload 6, 2) := by decide +kernel
theorem dX9_clamp_66 : decode cX9_clamp 66 = .ok (.iaload, 1) := by decide +kernel
theorem dX9_clamp_67 : decode cX9_clamp 67 = .ok (.ifCond .ne 17, 3) := by decide +kernel
theorem dX9_clamp_70 : decode cX9_clamp 70 = .ok (.aload_n 0, 1) := by decide +kernel
theorem dX9_clamp_71 : decode cX9_clamp 71 = .ok (.getfield 56, 3) := by decide +kernel
theorem dX9_clamp_74 : decode cX9_clamp 74 = .ok (.iload_n 1, 1) := by decide +kernel
theorem dX9_clamp_75 : decode cX9_clamp 75 = .ok (.iaload, 1) := by decide +kernel
theorem dX9_clamp_76 : decode cX9_clamp 76 = .ok (.iconst 3, 1) := by decide +kernel
theorem dX9_clamp_77 : decode cX9_clamp 77 = .ok (.if_icmp .ge 7, 3) := by decide +kernel
theorem dX9_clamp_80 : decode cX9_clamp 80 = .ok (.iconst 1, 1) := by decide +kernel
theorem dX9_clamp_81 : decode cX9_clamp 81 = .ok (.goto 4, 3) := by decide +kernel
theorem dX9_clamp_84 : decode cX9_clamp 84 = .ok (.iconst 0, 1) := by decide +kernel
theorem dX9_clamp_85 : decode cX9_clamp 85 = .ok (.istore 7, 2) := by decide +kernel
theorem dX9_clamp_87 : decode cX9_clamp 87 = .ok (.aload_n 0, 1) := by decide +kernel
theorem dX9_clamp_88 : decode cX9_clamp 88 = .ok (.iload 5, 2) := by decide +kernel
theorem dX9_clamp_90 : decode cX9_clamp 90 = .ok (.iload 4, 2) := by decide +kernel
theorem dX9_clamp_92 : decode cX9_clamp 92 = .ok (.iconst 1, 1) := by decide +kernel
theorem dX9_clamp_93 : decode cX9_clamp 93 = .ok (.bipush 9, 2) := by decide +kernel
theorem dX9_clamp_95 : decode cX9_clamp 95 = .ok (.invokestatic 114, 3) := by decide +kernel
theorem dX9_clamp_98 : decode cX9_clamp 98 = .ok (.iload 7, 2) := by decide +kernel
theorem dX9_clamp_100 : decode cX9_clamp 100 = .ok (.invokevirtual 127, 3) := by decide +kernel
theorem dX9_clamp_103 : decode cX9_clamp 103 = .ok (.ifCond .ne 5, 3) := by decide +kernel
theorem dX9_clamp_106 : decode cX9_clamp 106 = .ok (.iconst 0, 1) := by decide +kernel
theorem dX9_clamp_107 : decode cX9_clamp 107 = .ok (.ireturn, 1) := by decide +kernel
theorem dX9_clamp_108 : decode cX9_clamp 108 = .ok (.aload_n 0, 1) := by decide +kernel
theorem dX9_clamp_109 : decode cX9_clamp 109 = .ok (.getfield 47, 3) := by decide +kernel
theorem dX9_clamp_112 : decode cX9_clamp 112 = .ok (.iload 6, 2) := by decide +kernel
theorem dX9_clamp_114 : decode cX9_clamp 114 = .ok (.iload 4, 2) := by decide +kernel
theorem dX9_clamp_116 : decode cX9_clamp 116 = .ok (.iastore, 1) := by decide +kernel
theorem dX9_clamp_117 : decode cX9_clamp 117 = .ok (.aload_n 0, 1) := by decide +kernel
theorem dX9_clamp_118 : decode cX9_clamp 118 = .ok (.getfield 56, 3) := by decide +kernel
theorem dX9_clamp_121 : decode cX9_clamp 121 = .ok (.iload_n 1, 1) := by decide +kernel
theorem dX9_clamp_122 : decode cX9_clamp 122 = .ok (.dup2, 1) := by decide +kernel
theorem dX9_clamp_123 : decode cX9_clamp 123 = .ok (.iaload, 1) := by decide +kernel
theorem dX9_clamp_124 : decode cX9_clamp 124 = .ok (.iconst 1, 1) := by decide +kernel
theorem dX9_clamp_125 : decode cX9_clamp 125 = .ok (.iadd, 1) := by decide +kernel
theorem dX9_clamp_126 : decode cX9_clamp 126 = .ok (.iastore, 1) := by decide +kernel
theorem dX9_clamp_127 : decode cX9_clamp 127 = .ok (.aload_n 0, 1) := by decide +kernel
theorem dX9_clamp_128 : decode cX9_clamp 128 = .ok (.getfield 56, 3) := by decide +kernel
theorem dX9_clamp_131 : decode cX9_clamp 131 = .ok (.iload_n 1, 1) := by decide +kernel
theorem dX9_clamp_132 : decode cX9_clamp 132 = .ok (.iaload, 1) := by decide +kernel
theorem dX9_clamp_133 : decode cX9_clamp 133 = .ok (.ireturn, 1) := by decide +kernel
theorem dX9_toolFor_0 : decode cX9_toolFor 0 = .ok (.iconst 0, 1) := by decide +kernel
theorem dX9_toolFor_1 : decode cX9_toolFor 1 = .ok (.istore_n 3, 1) := by decide +kernel
theorem dX9_toolFor_2 : decode cX9_toolFor 2 = .ok (.iload_n 3, 1) := by decide +kernel
theorem dX9_toolFor_3 : decode cX9_toolFor 3 = .ok (.aload_n 0, 1) := by decide +kernel
theorem dX9_toolFor_4 : decode cX9_toolFor 4 = .ok (.getfield 118, 3) := by decide +kernel
theorem dX9_toolFor_7 : decode cX9_toolFor 7 = .ok (.if_icmp .ge 42, 3) := by decide +kernel
theorem dX9_toolFor_10 : decode cX9_toolFor 10 = .ok (.aload_n 0, 1) := by decide +kernel
theorem dX9_toolFor_11 : decode cX9_toolFor 11 = .ok (.getfield 34, 3) := by decide +kernel
theorem dX9_toolFor_14 : decode cX9_toolFor 14 = .ok (.iload_n 3, 1) := by decide +kernel
theorem dX9_toolFor_15 : decode cX9_toolFor 15 = .ok (.baload, 1) := by decide +kernel
theorem dX9_toolFor_16 : decode cX9_toolFor 16 = .ok (.ifCond .eq 27, 3) := by decide +kernel
theorem dX9_toolFor_19 : decode cX9_toolFor 19 = .ok (.aload_n 0, 1) := by decide +kernel
theorem dX9_toolFor_20 : decode cX9_toolFor 20 = .ok (.getfield 19, 3) := by decide +kernel
theorem dX9_toolFor_23 : decode cX9_toolFor 23 = .ok (.iload_n 3, 1) := by decide +kernel
theorem dX9_toolFor_24 : decode cX9_toolFor 24 = .ok (.iaload, 1) := by decide +kernel
theorem dX9_toolFor_25 : decode cX9_toolFor 25 = .ok (.iload_n 1, 1) := by decide +kernel
theorem dX9_toolFor_26 : decode cX9_toolFor 26 = .ok (.if_icmp .ne 17, 3) := by decide +kernel
theorem dX9_toolFor_29 : decode cX9_toolFor 29 = .ok (.aload_n 2, 1) := by decide +kernel
theorem dX9_toolFor_30 : decode cX9_toolFor 30 = .ok (.iload_n 3, 1) := by decide +kernel
theorem dX9_toolFor_31 : decode cX9_toolFor 31 = .ok (.iaload, 1) := by decide +kernel
theorem dX9_toolFor_32 : decode cX9_toolFor 32 = .ok (.aload_n 0, 1) := by decide +kernel
theorem dX9_toolFor_33 : decode cX9_toolFor 33 = .ok (.getfield 22, 3) := by decide +kernel
theorem dX9_toolFor_36 : decode cX9_toolFor 36 = .ok (.iload_n 3, 1) := by decide +kernel
theorem dX9_toolFor_37 : decode cX9_toolFor 37 = .ok (.iaload, 1) := by decide +kernel
theorem dX9_toolFor_38 : decode cX9_toolFor 38 = .ok (.if_icmp .ge 5, 3) := by decide +kernel
theorem dX9_toolFor_41 : decode cX9_toolFor 41 = .ok (.iload_n 3, 1) := by decide +kernel
theorem dX9_toolFor_42 : decode cX9_toolFor 42 = .ok (.ireturn, 1) := by decide +kernel
theorem dX9_toolFor_43 : decode cX9_toolFor 43 = .ok (.iinc 3 1, 3) := by decide +kernel
theorem dX9_toolFor_46 : decode cX9_toolFor 46 = .ok (.goto (-44), 3) := by decide +kernel
theorem dX9_toolFor_49 : decode cX9_toolFor 49 = .ok (.iconst (-1), 1) := by decide +kernel
theorem dX9_toolFor_50 : decode cX9_toolFor 50 = .ok (.ireturn, 1) := by decide +kernel
theorem dX9_cutsIn_0 : decode cX9_cutsIn 0 = .ok (.sipush 144, 3) := by decide +kernel
theorem dX9_cutsIn_3 : decode cX9_cutsIn 3 = .ok (.iload_n 1, 1) := by decide +kernel
theorem dX9_cutsIn_4 : decode cX9_cutsIn 4 = .ok (.imul, 1) := by decide +kernel
theorem dX9_cutsIn_5 : decode cX9_cutsIn 5 = .ok (.iload_n 2, 1) := by decide +kernel
theorem dX9_cutsIn_6 : decode cX9_cutsIn 6 = .ok (.iadd, 1) := by decide +kernel
theorem dX9_cutsIn_7 : decode cX9_cutsIn 7 = .ok (.istore 4, 2) := by decide +kernel
theorem dX9_cutsIn_9 : decode cX9_cutsIn 9 = .ok (.iload_n 2, 1) := by decide +kernel
theorem dX9_cutsIn_10 : decode cX9_cutsIn 10 = .ok (.bipush 12, 2) := by decide +kernel
theorem dX9_cutsIn_12 : decode cX9_cutsIn 12 = .ok (.irem, 1) := by decide +kernel
theorem dX9_cutsIn_13 : decode cX9_cutsIn 13 = .ok (.istore 5, 2) := by decide +kernel
theorem dX9_cutsIn_15 : decode cX9_cutsIn 15 = .ok (.aload_n 0, 1) := by decide +kernel
theorem dX9_cutsIn_16 : decode cX9_cutsIn 16 = .ok (.getfield 50, 3) := by decide +kernel
theorem dX9_cutsIn_19 : decode cX9_cutsIn 19 = .ok (.iload 4, 2) := by decide +kernel
theorem dX9_cutsIn_21 : decode cX9_cutsIn 21 = .ok (.iload_n 3, 1) := by decide +kernel
theorem dX9_cutsIn_22 : decode cX9_cutsIn 22 = .ok (.iastore, 1) := by decide +kernel
theorem dX9_cutsIn_23 : decode cX9_cutsIn 23 = .ok (.aload_n 0, 1) := by decide +kernel
theorem dX9_cutsIn_24 : decode cX9_cutsIn 24 = .ok (.getfield 53, 3) := by decide +kernel
theorem dX9_cutsIn_27 : decode cX9_cutsIn 27 = .ok (.iconst 4, 1) := by decide +kernel
theorem dX9_cutsIn_28 : decode cX9_cutsIn 28 = .ok (.iload 4, 2) := by decide +kernel
theorem dX9_cutsIn_30 : decode cX9_cutsIn 30 = .ok (.imul, 1) := by decide +kernel
theorem dX9_cutsIn_31 : decode cX9_cutsIn 31 = .ok (.aload_n 0, 1) := by decide +kernel
theorem dX9_cutsIn_32 : decode cX9_cutsIn 32 = .ok (.getfield 16, 3) := by decide +kernel
theorem dX9_cutsIn_35 : decode cX9_cutsIn 35 = .ok (.iload 5, 2) := by decide +kernel
theorem dX9_cutsIn_37 : decode cX9_cutsIn 37 = .ok (.iaload, 1) := by decide +kernel
theorem dX9_cutsIn_38 : decode cX9_cutsIn 38 = .ok (.iastore, 1) := by decide +kernel
theorem dX9_cutsIn_39 : decode cX9_cutsIn 39 = .ok (.aload_n 0, 1) := by decide +kernel
theorem dX9_cutsIn_40 : decode cX9_cutsIn 40 = .ok (.getfield 53, 3) := by decide +kernel
theorem dX9_cutsIn_43 : decode cX9_cutsIn 43 = .ok (.iconst 4, 1) := by decide +kernel
theorem dX9_cutsIn_44 : decode cX9_cutsIn 44 = .ok (.iload 4, 2) := by decide +kernel
theorem dX9_cutsIn_46 : decode cX9_cutsIn 46 = .ok (.imul, 1) := by decide +kernel
theorem dX9_cutsIn_47 : decode cX9_cutsIn 47 = .ok (.iconst 1, 1) := by decide +kernel
theorem dX9_cutsIn_48 : decode cX9_cutsIn 48 = .ok (.iadd, 1) := by decide +kernel
theorem dX9_cutsIn_49 : decode cX9_cutsIn 49 = .ok (.aload_n 0, 1) := by decide +kernel
theorem dX9_cutsIn_50 : decode cX9_cutsIn 50 = .ok (.getfield 155, 3) := by decide +kernel
theorem dX9_cutsIn_53 : decode cX9_cutsIn 53 = .ok (.iload 5, 2) := by decide +kernel
theorem dX9_cutsIn_55 : decode cX9_cutsIn 55 = .ok (.imul, 1) := by decide +kernel
theorem dX9_cutsIn_56 : decode cX9_cutsIn 56 = .ok (.bipush 10, 2) := by decide +kernel
theorem dX9_cutsIn_58 : decode cX9_cutsIn 58 = .ok (.idiv, 1) := by decide +kernel
theorem dX9_cutsIn_59 : decode cX9_cutsIn 59 = .ok (.iastore, 1) := by decide +kernel
theorem dX9_cutsIn_60 : decode cX9_cutsIn 60 = .ok (.aload_n 0, 1) := by decide +kernel
theorem dX9_cutsIn_61 : decode cX9_cutsIn 61 = .ok (.getfield 53, 3) := by decide +kernel
theorem dX9_cutsIn_64 : decode cX9_cutsIn 64 = .ok (.iconst 4, 1) := by decide +kernel
theorem dX9_cutsIn_65 : decode cX9_cutsIn 65 = .ok (.iload 4, 2) := by decide +kernel
theorem dX9_cutsIn_67 : decode cX9_cutsIn 67 = .ok (.imul, 1) := by decide +kernel
theorem dX9_cutsIn_68 : decode cX9_cutsIn 68 = .ok (.iconst 2, 1) := by decide +kernel
theorem dX9_cutsIn_69 : decode cX9_cutsIn 69 = .ok (.iadd, 1) := by decide +kernel
theorem dX9_cutsIn_70 : decode cX9_cutsIn 70 = .ok (.aload_n 0, 1) := by decide +kernel
theorem dX9_cutsIn_71 : decode cX9_cutsIn 71 = .ok (.getfield 25, 3) := by decide +kernel
theorem dX9_cutsIn_74 : decode cX9_cutsIn 74 = .ok (.iload_n 3, 1) := by decide +kernel
theorem dX9_cutsIn_75 : decode cX9_cutsIn 75 = .ok (.iaload, 1) := by decide +kernel
theorem dX9_cutsIn_76 : decode cX9_cutsIn 76 = .ok (.iconst 4, 1) := by decide +kernel
theorem dX9_cutsIn_77 : decode cX9_cutsIn 77 = .ok (.idiv, 1) := by decide +kernel
theorem dX9_cutsIn_78 : decode cX9_cutsIn 78 = .ok (.iastore, 1) := by decide +kernel
theorem dX9_cutsIn_79 : decode cX9_cutsIn 79 = .ok (.aload_n 0, 1) := by decide +kernel
theorem dX9_cutsIn_80 : decode cX9_cutsIn 80 = .ok (.getfield 53, 3) := by decide +kernel
theorem dX9_cutsIn_83 : decode cX9_cutsIn 83 = .ok (.iconst 4, 1) := by decide +kernel
theorem dX9_cutsIn_84 : decode cX9_cutsIn 84 = .ok (.iload 4, 2) := by decide +kernel
theorem dX9_cutsIn_86 : decode cX9_cutsIn 86 = .ok (.imul, 1) := by decide +kernel
theorem dX9_cutsIn_87 : decode cX9_cutsIn 87 = .ok (.iconst 3, 1) := by decide +kernel
theorem dX9_cutsIn_88 : decode cX9_cutsIn 88 = .ok (.iadd, 1) := by decide +kernel
theorem dX9_cutsIn_89 : decode cX9_cutsIn 89 = .ok (.aload_n 0, 1) := by decide +kernel
theorem dX9_cutsIn_90 : decode cX9_cutsIn 90 = .ok (.getfield 31, 3) := by decide +kernel
theorem dX9_cutsIn_93 : decode cX9_cutsIn 93 = .ok (.iload_n 3, 1) := by decide +kernel
theorem dX9_cutsIn_94 : decode cX9_cutsIn 94 = .ok (.iaload, 1) := by decide +kernel
theorem dX9_cutsIn_95 : decode cX9_cutsIn 95 = .ok (.ineg, 1) := by decide +kernel
theorem dX9_cutsIn_96 : decode cX9_cutsIn 96 = .ok (.iastore, 1) := by decide +kernel
theorem dX9_cutsIn_97 : decode cX9_cutsIn 97 = .ok (.aload_n 0, 1) := by decide +kernel
theorem dX9_cutsIn_98 : decode cX9_cutsIn 98 = .ok (.dup, 1) := by decide +kernel
theorem dX9_cutsIn_99 : decode cX9_cutsIn 99 = .ok (.getfield 155, 3) := by decide +kernel
theorem dX9_cutsIn_102 : decode cX9_cutsIn 102 = .ok (.aload_n 0, 1) := by decide +kernel
theorem dX9_cutsIn_103 : decode cX9_cutsIn 103 = .ok (.getfield 155, 3) := by decide +kernel
theorem dX9_cutsIn_106 : decode cX9_cutsIn 106 = .ok (.bipush 99, 2) := by decide +kernel
theorem dX9_cutsIn_108 : decode cX9_cutsIn 108 = .ok (.if_icmp .ge 7, 3) := by decide +kernel
theorem dX9_cutsIn_111 : decode cX9_cutsIn 111 = .ok (.iconst 1, 1) := by decide +kernel
theorem dX9_cutsIn_112 : decode cX9_cutsIn 112 = .ok (.goto 4, 3) := by decide +kernel
theorem dX9_cutsIn_115 : decode cX9_cutsIn 115 = .ok (.iconst 0, 1) := by decide +kernel
theorem dX9_cutsIn_116 : decode cX9_cutsIn 116 = .ok (.iadd, 1) := by decide +kernel
theorem dX9_cutsIn_117 : decode cX9_cutsIn 117 = .ok (.putfield 155, 3) := by decide +kernel
theorem dX9_cutsIn_120 : decode cX9_cutsIn 120 = .ok (.aload_n 0, 1) := by decide +kernel
theorem dX9_cutsIn_121 : decode cX9_cutsIn 121 = .ok (.dup, 1) := by decide +kernel
theorem dX9_cutsIn_122 : decode cX9_cutsIn 122 = .ok (.getfield 158, 3) := by decide +kernel
theorem dX9_cutsIn_125 : decode cX9_cutsIn 125 = .ok (.iconst 1, 1) := by decide +kernel
theorem dX9_cutsIn_126 : decode cX9_cutsIn 126 = .ok (.iadd, 1) := by decide +kernel
theorem dX9_cutsIn_127 : decode cX9_cutsIn 127 = .ok (.putfield 158, 3) := by decide +kernel
theorem dX9_cutsIn_130 : decode cX9_cutsIn 130 = .ok (.return_, 1) := by decide +kernel
theorem dX9_step_0 : decode cX9_step 0 = .ok (.aload_n 0, 1) := by decide +kernel
theorem dX9_step_1 : decode cX9_step 1 = .ok (.getfield 161, 3) := by decide +kernel
theorem dX9_step_4 : decode cX9_step 4 = .ok (.iload_n 2, 1) := by decide +kernel
theorem dX9_step_5 : decode cX9_step 5 = .ok (.if_icmp .ge 15, 3) := by decide +kernel
theorem dX9_step_8 : decode cX9_step 8 = .ok (.aload_n 0, 1) := by decide +kernel
theorem dX9_step_9 : decode cX9_step 9 = .ok (.dup, 1) := by decide +kernel
theorem dX9_step_10 : decode cX9_step 10 = .ok (.getfield 161, 3) := by decide +kernel
theorem dX9_step_13 : decode cX9_step 13 = .ok (.iconst 1, 1) := by decide +kernel
theorem dX9_step_14 : decode cX9_step 14 = .ok (.iadd, 1) := by decide +kernel
theorem dX9_step_15 : decode cX9_step 15 = .ok (.putfield 161, 3) := by decide +kernel
theorem dX9_step_18 : decode cX9_step 18 = .ok (.iconst 0, 1) := by decide +kernel
theorem dX9_step_19 : decode cX9_step 19 = .ok (.ireturn, 1) := by decide +kernel
theorem dX9_step_20 : decode cX9_step 20 = .ok (.bipush 12, 2) := by decide +kernel
theorem dX9_step_22 : decode cX9_step 22 = .ok (.aload_n 0, 1) := by decide +kernel
theorem dX9_step_23 : decode cX9_step 23 = .ok (.getfield 98, 3) := by decide +kernel
theorem dX9_step_26 : decode cX9_step 26 = .ok (.iconst 1, 1) := by decide +kernel
theorem dX9_step_27 : decode cX9_step 27 = .ok (.iaload, 1) := by decide +kernel
theorem dX9_step_28 : decode cX9_step 28 = .ok (.imul, 1) := by decide +kernel
theorem dX9_step_29 : decode cX9_step 29 = .ok (.aload_n 0, 1) := by decide +kernel
theorem dX9_step_30 : decode cX9_step 30 = .ok (.getfield 98, 3) := by decide +kernel
theorem dX9_step_33 : decode cX9_step 33 = .ok (.iconst 0, 1) := by decide +kernel
theorem dX9_step_34 : decode cX9_step 34 = .ok (.iaload, 1) := by decide +kernel
theorem dX9_step_35 : decode cX9_step 35 = .ok (.iadd, 1) := by decide +kernel
theorem dX9_step_36 : decode cX9_step 36 = .ok (.istore 4, 2) := by decide +kernel
theorem dX9_step_38 : decode cX9_step 38 = .ok (.aload_n 0, 1) := by decide +kernel
theorem dX9_step_39 : decode cX9_step 39 = .ok (.getfield 98, 3) := by decide +kernel
theorem dX9_step_42 : decode cX9_step 42 = .ok (.iconst 2, 1) := by decide +kernel
theorem dX9_step_43 : decode cX9_step 43 = .ok (.iaload, 1) := by decide +kernel
theorem dX9_step_44 : decode cX9_step 44 = .ok (.aload_n 0, 1) := by decide +kernel
theorem dX9_step_45 : decode cX9_step 45 = .ok (.getfield 92, 3) := by decide +kernel
theorem dX9_step_48 : decode cX9_step 48 = .ok (.iload 4, 2) := by decide +kernel
theorem dX9_step_50 : decode cX9_step 50 = .ok (.iaload, 1) := by decide +kernel
theorem dX9_step_51 : decode cX9_step 51 = .ok (.if_icmp .ge 7, 3) := by decide +kernel
theorem dX9_step_54 : decode cX9_step 54 = .ok (.iconst 1, 1) := by decide +kernel
theorem dX9_step_55 : decode cX9_step 55 = .ok (.goto 4, 3) := by decide +kernel
theorem dX9_step_58 : decode cX9_step 58 = .ok (.iconst 0, 1) := by decide +kernel
theorem dX9_step_59 : decode cX9_step 59 = .ok (.istore 5, 2) := by decide +kernel
theorem dX9_step_61 : decode cX9_step 61 = .ok (.aload_n 0, 1) := by decide +kernel
theorem dX9_step_62 : decode cX9_step 62 = .ok (.getfield 98, 3) := by decide +kernel
theorem dX9_step_65 : decode cX9_step 65 = .ok (.iconst 2, 1) := by decide +kernel
theorem dX9_step_66 : decode cX9_step 66 = .ok (.iaload, 1) := by decide +kernel
theorem dX9_step_67 : decode cX9_step 67 = .ok (.aload_n 0, 1) := by decide +kernel
theorem dX9_step_68 : decode cX9_step 68 = .ok (.getfield 47, 3) := by decide +kernel
theorem dX9_step_71 : decode cX9_step 71 = .ok (.sipush 144, 3) := by decide +kernel
theorem dX9_step_74 : decode cX9_step 74 = .ok (.iload_n 1, 1) := by decide +kernel
theorem dX9_step_75 : decode cX9_step 75 = .ok (.imul, 1) := by decide +kernel
theorem dX9_step_76 : decode cX9_step 76 = .ok (.iload 4, 2) := by decide +kernel
theorem dX9_step_78 : decode cX9_step 78 = .ok (.iadd, 1) := by decide +kernel
theorem dX9_step_79 : decode cX9_step 79 = .ok (.iaload, 1) := by decide +kernel
theorem dX9_step_80 : decode cX9_step 80 = .ok (.if_icmp .lt 23, 3) := by decide +kernel
theorem dX9_step_83 : decode cX9_step 83 = .ok (.iload 5, 2) := by decide +kernel
theorem dX9_step_85 : decode cX9_step 85 = .ok (.ifCond .eq 20, 3) := by decide +kernel
theorem dX9_step_88 : decode cX9_step 88 = .ok (.aload_n 0, 1) := by decide +kernel
theorem dX9_step_89 : decode cX9_step 89 = .ok (.getfield 164, 3) := by decide +kernel
theorem dX9_step_92 : decode cX9_step 92 = .ok (.ifCond .eq 11, 3) := by decide +kernel
theorem dX9_step_95 : decode cX9_step 95 = .ok (.aload_n 0, 1) := by decide +kernel
theorem dX9_step_96 : decode cX9_step 96 = .ok (.getfield 167, 3) := by decide +kernel
theorem dX9_step_99 : decode cX9_step 99 = .ok (.iconst (-1), 1) := by decide +kernel
theorem dX9_step_100 : decode cX9_step 100 = .ok (.if_icmp .ne 5, 3) := by decide +kernel
theorem dX9_step_103 : decode cX9_step 103 = .ok (.iconst 3, 1) := by decide +kernel
theorem dX9_step_104 : decode cX9_step 104 = .ok (.ireturn, 1) := by decide +kernel
theorem dX9_step_105 : decode cX9_step 105 = .ok (.iload 5, 2) := by decide +kernel
theorem dX9_step_107 : decode cX9_step 107 = .ok (.ifCond .eq 106, 3) := by decide +kernel
theorem dX9_step_110 : decode cX9_step 110 = .ok (.iload_n 3, 1) := by decide +kernel
theorem dX9_step_111 : decode cX9_step 111 = .ok (.iconst 2, 1) := by decide +kernel
theorem dX9_step_112 : decode cX9_step 112 = .ok (.if_icmp .ne 10, 3) := by decide +kernel
theorem dX9_step_115 : decode cX9_step 115 = .ok (.aload_n 0, 1) := by decide +kernel
theorem dX9_step_116 : decode cX9_step 116 = .ok (.getfield 25, 3) := by decide +kernel
theorem dX9_step_119 : decode cX9_step 119 = .ok (.goto 7, 3) := by decide +kernel
theorem dX9_step_122 : decode cX9_step 122 = .ok (.aload_n 0, 1) := by decide +kernel
theorem dX9_step_123 : decode cX9_step 123 = .ok (.getfield 28, 3) := by decide +kernel
theorem dX9_step_126 : decode cX9_step 126 = .ok (.astore 6, 2) := by decide +kernel
theorem dX9_step_128 : decode cX9_step 128 = .ok (.iload_n 3, 1) := by decide +kernel
theorem dX9_step_129 : decode cX9_step 129 = .ok (.ifCond .ne 7, 3) := by decide +kernel
theorem dX9_step_132 : decode cX9_step 132 = .ok (.iconst (-1), 1) := by decide +kernel
theorem dX9_step_133 : decode cX9_step 133 = .ok (.goto 13, 3) := by decide +kernel
theorem dX9_step_136 : decode cX9_step 136 = .ok (.aload_n 0, 1) := by decide +kernel
theorem dX9_step_137 : decode cX9_step 137 = .ok (.aload_n 0, 1) := by decide +kernel
theorem dX9_step_138 : decode cX9_step 138 = .ok (.getfield 167, 3) := by decide +kernel
theorem dX9_step_141 : decode cX9_step 141 = .ok (.aload 6, 2) := by decide +kernel
theorem dX9_step_143 : decode cX9_step 143 = .ok (.invokevirtual 170, 3) := by decide +kernel
theorem dX9_step_146 : decode cX9_step 146 = .ok (.istore 7, 2) := by decide +kernel
theorem dX9_step_148 : decode cX9_step 148 = .ok (.iload_n 3, 1) := by decide +kernel
theorem dX9_step_149 : decode cX9_step 149 = .ok (.ifCond .le 11, 3) := by decide +kernel
theorem dX9_step_152 : decode cX9_step 152 = .ok (.iload 7, 2) := by decide +kernel
theorem dX9_step_154 : decode cX9_step 154 = .ok (.iconst (-1), 1) := by decide +kernel
theorem dX9_step_155 : decode cX9_step 155 = .ok (.if_icmp .ne 5, 3) := by decide +kernel
theorem dX9_step_158 : decode cX9_step 158 = .ok (.iconst (-1), 1) := by decide +kernel
theorem dX9_step_159 : decode cX9_step 159 = .ok (.ireturn, 1) := by decide +kernel
theorem dX9_step_160 : decode cX9_step 160 = .ok (.iload_n 3, 1) := by decide +kernel
theorem dX9_step_161 : decode cX9_step 161 = .ok (.iconst 2, 1) := by decide +kernel
theorem dX9_step_162 : decode cX9_step 162 = .ok (.if_icmp .ne 12, 3) := by decide +kernel
theorem dX9_step_165 : decode cX9_step 165 = .ok (.aload_n 0, 1) := by decide +kernel
theorem dX9_step_166 : decode cX9_step 166 = .ok (.iload_n 1, 1) := by decide +kernel
theorem dX9_step_167 : decode cX9_step 167 = .ok (.iload 4, 2) := by decide +kernel
theorem dX9_step_169 : decode cX9_step 169 = .ok (.iload 7, 2) := by decide +kernel
theorem dX9_step_171 : decode cX9_step 171 = .ok (.invokevirtual 174, 3) := by decide +kernel
theorem dX9_step_174 : decode cX9_step 174 = .ok (.iload_n 3, 1) := by decide +kernel
theorem dX9_step_175 : decode cX9_step 175 = .ok (.ifCond .le 12, 3) := by decide +kernel
theorem dX9_step_178 : decode cX9_step 178 = .ok (.aload 6, 2) := by decide +kernel
theorem dX9_step_180 : decode cX9_step 180 = .ok (.iload 7, 2) := by decide +kernel
theorem dX9_step_182 : decode cX9_step 182 = .ok (.dup2, 1) := by decide +kernel
theorem dX9_step_183 : decode cX9_step 183 = .ok (.iaload, 1) := by decide +kernel
theorem dX9_step_184 : decode cX9_step 184 = .ok (.iconst 1, 1) := by decide +kernel
theorem dX9_step_185 : decode cX9_step 185 = .ok (.iadd, 1) := by decide +kernel
theorem dX9_step_186 : decode cX9_step 186 = .ok (.iastore, 1) := by decide +kernel
theorem dX9_step_187 : decode cX9_step 187 = .ok (.aload_n 0, 1) := by decide +kernel
theorem dX9_step_188 : decode cX9_step 188 = .ok (.getfield 95, 3) := by decide +kernel
theorem dX9_step_191 : decode cX9_step 191 = .ok (.aload_n 0, 1) := by decide +kernel
theorem dX9_step_192 : decode cX9_step 192 = .ok (.getfield 167, 3) := by decide +kernel
theorem dX9_step_195 : decode cX9_step 195 = .ok (.dup2, 1) := by decide +kernel
theorem dX9_step_196 : decode cX9_step 196 = .ok (.iaload, 1) := by decide +kernel
theorem dX9_step_197 : decode cX9_step 197 = .ok (.iconst 1, 1) := by decide +kernel
theorem dX9_step_198 : decode cX9_step 198 = .ok (.iadd, 1) := by decide +kernel
theorem dX9_step_199 : decode cX9_step 199 = .ok (.iastore, 1) := by decide +kernel
theorem dX9_step_200 : decode cX9_step 200 = .ok (.aload_n 0, 1) := by decide +kernel
theorem dX9_step_201 : decode cX9_step 201 = .ok (.getfield 92, 3) := by decide +kernel
theorem dX9_step_204 : decode cX9_step 204 = .ok (.iload 4, 2) := by decide +kernel
theorem dX9_step_206 : decode cX9_step 206 = .ok (.aload_n 0, 1) := by decide +kernel
theorem dX9_step_207 : decode cX9_step 207 = .ok (.getfield 98, 3) := by decide +kernel
theorem dX9_step_210 : decode cX9_step 210 = .ok (.iconst 2, 1) := by decide +kernel
theorem dX9_step_211 : decode cX9_step 211 = .ok (.iaload, 1) := by decide +kernel
theorem dX9_step_212 : decode cX9_step 212 = .ok (.iastore, 1) := by decide +kernel
theorem dX9_step_213 : decode cX9_step 213 = .ok (.aload_n 0, 1) := by decide +kernel
theorem dX9_step_214 : decode cX9_step 214 = .ok (.dup, 1) := by decide +kernel
theorem dX9_step_215 : decode cX9_step 215 = .ok (.getfield 161, 3) := by decide +kernel
theorem dX9_step_218 : decode cX9_step 218 = .ok (.iconst 1, 1) := by decide +kernel
theorem dX9_step_219 : decode cX9_step 219 = .ok (.iadd, 1) := by decide +kernel
theorem dX9_step_220 : decode cX9_step 220 = .ok (.putfield 161, 3) := by decide +kernel
theorem dX9_step_223 : decode cX9_step 223 = .ok (.iconst 0, 1) := by decide +kernel
theorem dX9_step_224 : decode cX9_step 224 = .ok (.ireturn, 1) := by decide +kernel
theorem dX9_moves_0 : decode cX9_moves 0 = .ok (.aload_n 0, 1) := by decide +kernel
theorem dX9_moves_1 : decode cX9_moves 1 = .ok (.getfield 178, 3) := by decide +kernel
theorem dX9_moves_4 : decode cX9_moves 4 = .ok (.ifCond .ne 7, 3) := by decide +kernel
theorem dX9_moves_7 : decode cX9_moves 7 = .ok (.iload_n 3, 1) := by decide +kernel
theorem dX9_moves_8 : decode cX9_moves 8 = .ok (.goto 11, 3) := by decide +kernel
theorem dX9_moves_11 : decode cX9_moves 11 = .ok (.aload_n 0, 1) := by decide +kernel
theorem dX9_moves_12 : decode cX9_moves 12 = .ok (.getfield 98, 3) := by decide +kernel
theorem dX9_moves_15 : decode cX9_moves 15 = .ok (.iload_n 2, 1) := by decide +kernel
theorem dX9_moves_16 : decode cX9_moves 16 = .ok (.iaload, 1) := by decide +kernel
theorem dX9_moves_17 : decode cX9_moves 17 = .ok (.iload_n 3, 1) := by decide +kernel
theorem dX9_moves_18 : decode cX9_moves 18 = .ok (.iadd, 1) := by decide +kernel
theorem dX9_moves_19 : decode cX9_moves 19 = .ok (.istore 6, 2) := by decide +kernel
theorem dX9_moves_21 : decode cX9_moves 21 = .ok (.iload 6, 2) := by decide +kernel
theorem dX9_moves_23 : decode cX9_moves 23 = .ok (.iconst 0, 1) := by decide +kernel
theorem dX9_moves_24 : decode cX9_moves 24 = .ok (.iload_n 2, 1) := by decide +kernel
theorem dX9_moves_25 : decode cX9_moves 25 = .ok (.iconst 2, 1) := by decide +kernel
theorem dX9_moves_26 : decode cX9_moves 26 = .ok (.if_icmp .ne 8, 3) := by decide +kernel
theorem dX9_moves_29 : decode cX9_moves 29 = .ok (.bipush 9, 2) := by decide +kernel
theorem dX9_moves_31 : decode cX9_moves 31 = .ok (.goto 5, 3) := by decide +kernel
theorem dX9_moves_34 : decode cX9_moves 34 = .ok (.bipush 11, 2) := by decide +kernel
theorem dX9_moves_36 : decode cX9_moves 36 = .ok (.invokestatic 114, 3) := by decide +kernel
theorem dX9_moves_39 : decode cX9_moves 39 = .ok (.ifCond .ne 5, 3) := by decide +kernel
theorem dX9_moves_42 : decode cX9_moves 42 = .ok (.iconst 1, 1) := by decide +kernel
theorem dX9_moves_43 : decode cX9_moves 43 = .ok (.ireturn, 1) := by decide +kernel
theorem dX9_moves_44 : decode cX9_moves 44 = .ok (.iconst 0, 1) := by decide +kernel
theorem dX9_moves_45 : decode cX9_moves 45 = .ok (.istore 7, 2) := by decide +kernel
theorem dX9_moves_47 : decode cX9_moves 47 = .ok (.iload 7, 2) := by decide +kernel
theorem dX9_moves_49 : decode cX9_moves 49 = .ok (.ifCond .ne 53, 3) := by decide +kernel
theorem dX9_moves_52 : decode cX9_moves 52 = .ok (.aload_n 0, 1) := by decide +kernel
theorem dX9_moves_53 : decode cX9_moves 53 = .ok (.getfield 98, 3) := by decide +kernel
theorem dX9_moves_56 : decode cX9_moves 56 = .ok (.iload_n 2, 1) := by decide +kernel
theorem dX9_moves_57 : decode cX9_moves 57 = .ok (.iaload, 1) := by decide +kernel
theorem dX9_moves_58 : decode cX9_moves 58 = .ok (.iload 6, 2) := by decide +kernel
theorem dX9_moves_60 : decode cX9_moves 60 = .ok (.if_icmp .eq 42, 3) := by decide +kernel
theorem dX9_moves_63 : decode cX9_moves 63 = .ok (.aload_n 0, 1) := by decide +kernel
theorem dX9_moves_64 : decode cX9_moves 64 = .ok (.getfield 98, 3) := by decide +kernel
theorem dX9_moves_67 : decode cX9_moves 67 = .ok (.iload_n 2, 1) := by decide +kernel
theorem dX9_moves_68 : decode cX9_moves 68 = .ok (.dup2, 1) := by decide +kernel
theorem dX9_moves_69 : decode cX9_moves 69 = .ok (.iaload, 1) := by decide +kernel
theorem dX9_moves_70 : decode cX9_moves 70 = .ok (.aload_n 0, 1) := by decide +kernel
theorem dX9_moves_71 : decode cX9_moves 71 = .ok (.getfield 98, 3) := by decide +kernel
theorem dX9_moves_74 : decode cX9_moves 74 = .ok (.iload_n 2, 1) := by decide +kernel
theorem dX9_moves_75 : decode cX9_moves 75 = .ok (.iaload, 1) := by decide +kernel
theorem dX9_moves_76 : decode cX9_moves 76 = .ok (.iload 6, 2) := by decide +kernel
theorem dX9_moves_78 : decode cX9_moves 78 = .ok (.if_icmp .ge 7, 3) := by decide +kernel
theorem dX9_moves_81 : decode cX9_moves 81 = .ok (.iconst 1, 1) := by decide +kernel
theorem dX9_moves_82 : decode cX9_moves 82 = .ok (.goto 4, 3) := by decide +kernel
theorem dX9_moves_85 : decode cX9_moves 85 = .ok (.iconst (-1), 1) := by decide +kernel
theorem dX9_moves_86 : decode cX9_moves 86 = .ok (.iadd, 1) := by decide +kernel
theorem dX9_moves_87 : decode cX9_moves 87 = .ok (.iastore, 1) := by decide +kernel
theorem dX9_moves_88 : decode cX9_moves 88 = .ok (.aload_n 0, 1) := by decide +kernel
theorem dX9_moves_89 : decode cX9_moves 89 = .ok (.iload_n 1, 1) := by decide +kernel
theorem dX9_moves_90 : decode cX9_moves 90 = .ok (.iload 4, 2) := by decide +kernel
theorem dX9_moves_92 : decode cX9_moves 92 = .ok (.iload 5, 2) := by decide +kernel
theorem dX9_moves_94 : decode cX9_moves 94 = .ok (.invokevirtual 181, 3) := by decide +kernel
theorem dX9_moves_97 : decode cX9_moves 97 = .ok (.istore 7, 2) := by decide +kernel
theorem dX9_moves_99 : decode cX9_moves 99 = .ok (.goto (-52), 3) := by decide +kernel
theorem dX9_moves_102 : decode cX9_moves 102 = .ok (.iload 7, 2) := by decide +kernel
theorem dX9_moves_104 : decode cX9_moves 104 = .ok (.ireturn, 1) := by decide +kernel
theorem dX9_runs_0 : decode cX9_runs 0 = .ok (.iconst 0, 1) := by decide +kernel
theorem dX9_runs_1 : decode cX9_runs 1 = .ok (.istore 5, 2) := by decide +kernel
theorem dX9_runs_3 : decode cX9_runs 3 = .ok (.iload 5, 2) := by decide +kernel
theorem dX9_runs_5 : decode cX9_runs 5 = .ok (.sipush 144, 3) := by decide +kernel
theorem dX9_runs_8 : decode cX9_runs 8 = .ok (.if_icmp .ge 29, 3) := by decide +kernel
theorem dX9_runs_11 : decode cX9_runs 11 = .ok (.aload_n 0, 1) := by decide +kernel
theorem dX9_runs_12 : decode cX9_runs 12 = .ok (.getfield 92, 3) := by decide +kernel
theorem dX9_runs_15 : decode cX9_runs 15 = .ok (.iload 5, 2) := by decide +kernel
theorem dX9_runs_17 : decode cX9_runs 17 = .ok (.aload_n 0, 1) := by decide +kernel
theorem dX9_runs_18 : decode cX9_runs 18 = .ok (.getfield 44, 3) := by decide +kernel
theorem dX9_runs_21 : decode cX9_runs 21 = .ok (.sipush 144, 3) := by decide +kernel
theorem dX9_runs_24 : decode cX9_runs 24 = .ok (.iload_n 1, 1) := by decide +kernel
theorem dX9_runs_25 : decode cX9_runs 25 = .ok (.imul, 1) := by decide +kernel
theorem dX9_runs_26 : decode cX9_runs 26 = .ok (.iload 5, 2) := by decide +kernel
theorem dX9_runs_28 : decode cX9_runs 28 = .ok (.iadd, 1) := by decide +kernel
theorem dX9_runs_29 : decode cX9_runs 29 = .ok (.iaload, 1) := by decide +kernel
theorem dX9_runs_30 : decode cX9_runs 30 = .ok (.iastore, 1) := by decide +kernel
theorem dX9_runs_31 : decode cX9_runs 31 = .ok (.iinc 5 1, 3) := by decide +kernel
theorem dX9_runs_34 : decode cX9_runs 34 = .ok (.goto (-31), 3) := by decide +kernel
theorem dX9_runs_37 : decode cX9_runs 37 = .ok (.iconst 0, 1) := by decide +kernel
theorem dX9_runs_38 : decode cX9_runs 38 = .ok (.istore 5, 2) := by decide +kernel
theorem dX9_runs_40 : decode cX9_runs 40 = .ok (.iload 5, 2) := by decide +kernel
theorem dX9_runs_42 : decode cX9_runs 42 = .ok (.iconst 4, 1) := by decide +kernel
theorem dX9_runs_43 : decode cX9_runs 43 = .ok (.if_icmp .ge 17, 3) := by decide +kernel
theorem dX9_runs_46 : decode cX9_runs 46 = .ok (.aload_n 0, 1) := by decide +kernel
theorem dX9_runs_47 : decode cX9_runs 47 = .ok (.getfield 95, 3) := by decide +kernel
theorem dX9_runs_50 : decode cX9_runs 50 = .ok (.iload 5, 2) := by decide +kernel
theorem dX9_runs_52 : decode cX9_runs 52 = .ok (.iconst 0, 1) := by decide +kernel
theorem dX9_runs_53 : decode cX9_runs 53 = .ok (.iastore, 1) := by decide +kernel
theorem dX9_runs_54 : decode cX9_runs 54 = .ok (.iinc 5 1, 3) := by decide +kernel
theorem dX9_runs_57 : decode cX9_runs 57 = .ok (.goto (-17), 3) := by decide +kernel
theorem dX9_runs_60 : decode cX9_runs 60 = .ok (.aload_n 0, 1) := by decide +kernel
theorem dX9_runs_61 : decode cX9_runs 61 = .ok (.getfield 98, 3) := by decide +kernel
theorem dX9_runs_64 : decode cX9_runs 64 = .ok (.iconst 0, 1) := by decide +kernel
theorem dX9_runs_65 : decode cX9_runs 65 = .ok (.iconst 0, 1) := by decide +kernel
theorem dX9_runs_66 : decode cX9_runs 66 = .ok (.iastore, 1) := by decide +kernel
theorem dX9_runs_67 : decode cX9_runs 67 = .ok (.aload_n 0, 1) := by decide +kernel
theorem dX9_runs_68 : decode cX9_runs 68 = .ok (.getfield 98, 3) := by decide +kernel
theorem dX9_runs_71 : decode cX9_runs 71 = .ok (.iconst 1, 1) := by decide +kernel
theorem dX9_runs_72 : decode cX9_runs 72 = .ok (.iconst 0, 1) := by decide +kernel
theorem dX9_runs_73 : decode cX9_runs 73 = .ok (.iastore, 1) := by decide +kernel
theorem dX9_runs_74 : decode cX9_runs 74 = .ok (.aload_n 0, 1) := by decide +kernel
theorem dX9_runs_75 : decode cX9_runs 75 = .ok (.getfield 98, 3) := by decide +kernel
theorem dX9_runs_78 : decode cX9_runs 78 = .ok (.iconst 2, 1) := by decide +kernel
theorem dX9_runs_79 : decode cX9_runs 79 = .ok (.bipush 9, 2) := by decide +kernel
theorem dX9_runs_81 : decode cX9_runs 81 = .ok (.iastore, 1) := by decide +kernel
theorem dX9_runs_82 : decode cX9_runs 82 = .ok (.aload_n 0, 1) := by decide +kernel
theorem dX9_runs_83 : decode cX9_runs 83 = .ok (.iconst 0, 1) := by decide +kernel
theorem dX9_runs_84 : decode cX9_runs 84 = .ok (.putfield 164, 3) := by decide +kernel
theorem dX9_runs_87 : decode cX9_runs 87 = .ok (.aload_n 0, 1) := by decide +kernel
theorem dX9_runs_88 : decode cX9_runs 88 = .ok (.iconst 0, 1) := by decide +kernel
theorem dX9_runs_89 : decode cX9_runs 89 = .ok (.putfield 178, 3) := by decide +kernel
theorem dX9_runs_92 : decode cX9_runs 92 = .ok (.aload_n 0, 1) := by decide +kernel
theorem dX9_runs_93 : decode cX9_runs 93 = .ok (.iconst (-1), 1) := by decide +kernel
theorem dX9_runs_94 : decode cX9_runs 94 = .ok (.putfield 167, 3) := by decide +kernel
theorem dX9_runs_97 : decode cX9_runs 97 = .ok (.aload_n 0, 1) := by decide +kernel
theorem dX9_runs_98 : decode cX9_runs 98 = .ok (.iconst 0, 1) := by decide +kernel
theorem dX9_runs_99 : decode cX9_runs 99 = .ok (.putfield 161, 3) := by decide +kernel
theorem dX9_runs_102 : decode cX9_runs 102 = .ok (.iconst 0, 1) := by decide +kernel
theorem dX9_runs_103 : decode cX9_runs 103 = .ok (.istore 5, 2) := by decide +kernel
theorem dX9_runs_105 : decode cX9_runs 105 = .ok (.iconst 0, 1) := by decide +kernel
theorem dX9_runs_106 : decode cX9_runs 106 = .ok (.istore 6, 2) := by decide +kernel
theorem dX9_runs_108 : decode cX9_runs 108 = .ok (.iconst 0, 1) := by decide +kernel
theorem dX9_runs_109 : decode cX9_runs 109 = .ok (.istore 7, 2) := by decide +kernel
theorem dX9_runs_111 : decode cX9_runs 111 = .ok (.aload_n 0, 1) := by decide +kernel
theorem dX9_runs_112 : decode cX9_runs 112 = .ok (.getfield 101, 3) := by decide +kernel
theorem dX9_runs_115 : decode cX9_runs 115 = .ok (.iconst 0, 1) := by decide +kernel
theorem dX9_runs_116 : decode cX9_runs 116 = .ok (.iload_n 2, 1) := by decide +kernel
theorem dX9_runs_117 : decode cX9_runs 117 = .ok (.iastore, 1) := by decide +kernel
theorem dX9_runs_118 : decode cX9_runs 118 = .ok (.aload_n 0, 1) := by decide +kernel
theorem dX9_runs_119 : decode cX9_runs 119 = .ok (.getfield 104, 3) := by decide +kernel
theorem dX9_runs_122 : decode cX9_runs 122 = .ok (.iconst 0, 1) := by decide +kernel
theorem dX9_runs_123 : decode cX9_runs 123 = .ok (.iconst 0, 1) := by decide +kernel
theorem dX9_runs_124 : decode cX9_runs 124 = .ok (.iastore, 1) := by decide +kernel
theorem dX9_runs_125 : decode cX9_runs 125 = .ok (.iload 5, 2) := by decide +kernel
theorem dX9_runs_127 : decode cX9_runs 127 = .ok (.ifCond .lt 186, 3) := by decide +kernel
theorem dX9_runs_130 : decode cX9_runs 130 = .ok (.iload 7, 2) := by decide +kernel
theorem dX9_runs_132 : decode cX9_runs 132 = .ok (.ifCond .ne 181, 3) := by decide +kernel
theorem dX9_runs_135 : decode cX9_runs 135 = .ok (.aload_n 0, 1) := by decide +kernel
theorem dX9_runs_136 : decode cX9_runs 136 = .ok (.getfield 101, 3) := by decide +kernel
theorem dX9_runs_139 : decode cX9_runs 139 = .ok (.iload 5, 2) := by decide +kernel
theorem dX9_runs_141 : decode cX9_runs 141 = .ok (.iaload, 1) := by decide +kernel
theorem dX9_runs_142 : decode cX9_runs 142 = .ok (.istore 8, 2) := by decide +kernel
theorem dX9_runs_144 : decode cX9_runs 144 = .ok (.aload_n 0, 1) := by decide +kernel
theorem dX9_runs_145 : decode cX9_runs 145 = .ok (.getfield 104, 3) := by decide +kernel
theorem dX9_runs_148 : decode cX9_runs 148 = .ok (.iload 5, 2) := by decide +kernel
theorem dX9_runs_150 : decode cX9_runs 150 = .ok (.iaload, 1) := by decide +kernel
theorem dX9_runs_151 : decode cX9_runs 151 = .ok (.aload_n 0, 1) := by decide +kernel
theorem dX9_runs_152 : decode cX9_runs 152 = .ok (.getfield 13, 3) := by decide +kernel
theorem dX9_runs_155 : decode cX9_runs 155 = .ok (.iload 8, 2) := by decide +kernel
theorem dX9_runs_157 : decode cX9_runs 157 = .ok (.iaload, 1) := by decide +kernel
theorem dX9_runs_158 : decode cX9_runs 158 = .ok (.if_icmp .ne 9, 3) := by decide +kernel
theorem dX9_runs_161 : decode cX9_runs 161 = .ok (.iinc 5 (-1), 3) := by decide +kernel
theorem dX9_runs_164 : decode cX9_runs 164 = .ok (.goto 146, 3) := by decide +kernel
theorem dX9_runs_167 : decode cX9_runs 167 = .ok (.iload 6, 2) := by decide +kernel
theorem dX9_runs_169 : decode cX9_runs 169 = .ok (.sipush 600, 3) := by decide +kernel
theorem dX9_runs_172 : decode cX9_runs 172 = .ok (.if_icmp .ne 9, 3) := by decide +kernel
theorem dX9_runs_175 : decode cX9_runs 175 = .ok (.iconst 4, 1) := by decide +kernel
theorem dX9_runs_176 : decode cX9_runs 176 = .ok (.istore 7, 2) := by decide +kernel
theorem dX9_runs_178 : decode cX9_runs 178 = .ok (.goto 132, 3) := by decide +kernel
theorem dX9_runs_181 : decode cX9_runs 181 = .ok (.aload_n 0, 1) := by decide +kernel
theorem dX9_runs_182 : decode cX9_runs 182 = .ok (.getfield 7, 3) := by decide +kernel
theorem dX9_runs_185 : decode cX9_runs 185 = .ok (.bipush 60, 2) := by decide +kernel
theorem dX9_runs_187 : decode cX9_runs 187 = .ok (.iload 8, 2) := by decide +kernel
theorem dX9_runs_189 : decode cX9_runs 189 = .ok (.imul, 1) := by decide +kernel
theorem dX9_runs_190 : decode cX9_runs 190 = .ok (.iconst 2, 1) := by decide +kernel
theorem dX9_runs_191 : decode cX9_runs 191 = .ok (.aload_n 0, 1) := by decide +kernel
theorem dX9_runs_192 : decode cX9_runs 192 = .ok (.getfield 104, 3) := by decide +kernel
theorem dX9_runs_195 : decode cX9_runs 195 = .ok (.iload 5, 2) := by decide +kernel
theorem dX9_runs_197 : decode cX9_runs 197 = .ok (.iaload, 1) := by decide +kernel
theorem dX9_runs_198 : decode cX9_runs 198 = .ok (.imul, 1) := by decide +kernel
theorem dX9_runs_199 : decode cX9_runs 199 = .ok (.iadd, 1) := by decide +kernel
theorem dX9_runs_200 : decode cX9_runs 200 = .ok (.iaload, 1) := by decide +kernel
theorem dX9_runs_201 : decode cX9_runs 201 = .ok (.istore 9, 2) := by decide +kernel
theorem dX9_runs_203 : decode cX9_runs 203 = .ok (.aload_n 0, 1) := by decide +kernel
theorem dX9_runs_204 : decode cX9_runs 204 = .ok (.getfield 7, 3) := by decide +kernel
theorem dX9_runs_207 : decode cX9_runs 207 = .ok (.bipush 60, 2) := by decide +kernel
theorem dX9_runs_209 : decode cX9_runs 209 = .ok (.iload 8, 2) := by decide +kernel
theorem dX9_runs_211 : decode cX9_runs 211 = .ok (.imul, 1) := by decide +kernel
theorem dX9_runs_212 : decode cX9_runs 212 = .ok (.iconst 2, 1) := by decide +kernel
theorem dX9_runs_213 : decode cX9_runs 213 = .ok (.aload_n 0, 1) := by decide +kernel
theorem dX9_runs_214 : decode cX9_runs 214 = .ok (.getfield 104, 3) := by decide +kernel
theorem dX9_runs_217 : decode cX9_runs 217 = .ok (.iload 5, 2) := by decide +kernel
theorem dX9_runs_219 : decode cX9_runs 219 = .ok (.iaload, 1) := by decide +kernel
theorem dX9_runs_220 : decode cX9_runs 220 = .ok (.imul, 1) := by decide +kernel
theorem dX9_runs_221 : decode cX9_runs 221 = .ok (.iadd, 1) := by decide +kernel
theorem dX9_runs_222 : decode cX9_runs 222 = .ok (.iconst 1, 1) := by decide +kernel
theorem dX9_runs_223 : decode cX9_runs 223 = .ok (.iadd, 1) := by decide +kernel
theorem dX9_runs_224 : decode cX9_runs 224 = .ok (.iaload, 1) := by decide +kernel
theorem dX9_runs_225 : decode cX9_runs 225 = .ok (.istore 10, 2) := by decide +kernel
theorem dX9_runs_227 : decode cX9_runs 227 = .ok (.iinc 6 1, 3) := by decide +kernel
theorem dX9_runs_230 : decode cX9_runs 230 = .ok (.aload_n 0, 1) := by decide +kernel
theorem dX9_runs_231 : decode cX9_runs 231 = .ok (.getfield 104, 3) := by decide +kernel
theorem dX9_runs_234 : decode cX9_runs 234 = .ok (.iload 5, 2) := by decide +kernel
theorem dX9_runs_236 : decode cX9_runs 236 = .ok (.dup2, 1) := by decide +kernel
theorem dX9_runs_237 : decode cX9_runs 237 = .ok (.iaload, 1) := by decide +kernel
theorem dX9_runs_238 : decode cX9_runs 238 = .ok (.iconst 1, 1) := by decide +kernel
theorem dX9_runs_239 : decode cX9_runs 239 = .ok (.iadd, 1) := by decide +kernel
theorem dX9_runs_240 : decode cX9_runs 240 = .ok (.iastore, 1) := by decide +kernel
theorem dX9_runs_241 : decode cX9_runs 241 = .ok (.iload 9, 2) := by decide +kernel
theorem dX9_runs_243 : decode cX9_runs 243 = .ok (.bipush 6, 2) := by decide +kernel
theorem dX9_runs_245 : decode cX9_runs 245 = .ok (.if_icmp .ne 26, 3) := by decide +kernel
theorem dX9_runs_248 : decode cX9_runs 248 = .ok (.iinc 5 1, 3) := by decide +kernel
theorem dX9_runs_251 : decode cX9_runs 251 = .ok (.aload_n 0, 1) := by decide +kernel
theorem dX9_runs_252 : decode cX9_runs 252 = .ok (.getfield 101, 3) := by decide +kernel
theorem dX9_runs_255 : decode cX9_runs 255 = .ok (.iload 5, 2) := by decide +kernel
theorem dX9_runs_257 : decode cX9_runs 257 = .ok (.iload 10, 2) := by decide +kernel
theorem dX9_runs_259 : decode cX9_runs 259 = .ok (.iastore, 1) := by decide +kernel
theorem dX9_runs_260 : decode cX9_runs 260 = .ok (.aload_n 0, 1) := by decide +kernel
theorem dX9_runs_261 : decode cX9_runs 261 = .ok (.getfield 104, 3) := by decide +kernel
theorem dX9_runs_264 : decode cX9_runs 264 = .ok (.iload 5, 2) := by decide +kernel
theorem dX9_runs_266 : decode cX9_runs 266 = .ok (.iconst 0, 1) := by decide +kernel
theorem dX9_runs_267 : decode cX9_runs 267 = .ok (.iastore, 1) := by decide +kernel
theorem dX9_runs_268 : decode cX9_runs 268 = .ok (.goto 42, 3) := by decide +kernel
theorem dX9_runs_271 : decode cX9_runs 271 = .ok (.iload 9, 2) := by decide +kernel
theorem dX9_runs_273 : decode cX9_runs 273 = .ok (.iconst 2, 1) := by decide +kernel
theorem dX9_runs_274 : decode cX9_runs 274 = .ok (.iconst 4, 1) := by decide +kernel
theorem dX9_runs_275 : decode cX9_runs 275 = .ok (.invokestatic 114, 3) := by decide +kernel
theorem dX9_runs_278 : decode cX9_runs 278 = .ok (.ifCond .eq 22, 3) := by decide +kernel
theorem dX9_runs_281 : decode cX9_runs 281 = .ok (.aload_n 0, 1) := by decide +kernel
theorem dX9_runs_282 : decode cX9_runs 282 = .ok (.iload_n 1, 1) := by decide +kernel
theorem dX9_runs_283 : decode cX9_runs 283 = .ok (.iload 9, 2) := by decide +kernel
theorem dX9_runs_285 : decode cX9_runs 285 = .ok (.iconst 2, 1) := by decide +kernel
theorem dX9_runs_286 : decode cX9_runs 286 = .ok (.isub, 1) := by decide +kernel
theorem dX9_runs_287 : decode cX9_runs 287 = .ok (.iload 10, 2) := by decide +kernel
theorem dX9_runs_289 : decode cX9_runs 289 = .ok (.iload_n 3, 1) := by decide +kernel
theorem dX9_runs_290 : decode cX9_runs 290 = .ok (.iload 4, 2) := by decide +kernel
theorem dX9_runs_292 : decode cX9_runs 292 = .ok (.invokevirtual 185, 3) := by decide +kernel
theorem dX9_runs_295 : decode cX9_runs 295 = .ok (.istore 7, 2) := by decide +kernel
theorem dX9_runs_297 : decode cX9_runs 297 = .ok (.goto 13, 3) := by decide +kernel
theorem dX9_runs_300 : decode cX9_runs 300 = .ok (.aload_n 0, 1) := by decide +kernel
theorem dX9_runs_301 : decode cX9_runs 301 = .ok (.iload 9, 2) := by decide +kernel
theorem dX9_runs_303 : decode cX9_runs 303 = .ok (.iload 10, 2) := by decide +kernel
theorem dX9_runs_305 : decode cX9_runs 305 = .ok (.invokevirtual 189, 3) := by decide +kernel
theorem dX9_runs_308 : decode cX9_runs 308 = .ok (.istore 7, 2) := by decide +kernel
theorem dX9_runs_310 : decode cX9_runs 310 = .ok (.goto (-185), 3) := by decide +kernel
theorem dX9_runs_313 : decode cX9_runs 313 = .ok (.iload 7, 2) := by decide +kernel
theorem dX9_runs_315 : decode cX9_runs 315 = .ok (.ireturn, 1) := by decide +kernel
theorem dX9_sets_0 : decode cX9_sets 0 = .ok (.iload_n 1, 1) := by decide +kernel
theorem dX9_sets_1 : decode cX9_sets 1 = .ok (.iconst 5, 1) := by decide +kernel
theorem dX9_sets_2 : decode cX9_sets 2 = .ok (.if_icmp .ne 16, 3) := by decide +kernel
theorem dX9_sets_5 : decode cX9_sets 5 = .ok (.aload_n 0, 1) := by decide +kernel
theorem dX9_sets_6 : decode cX9_sets 6 = .ok (.getfield 98, 3) := by decide +kernel
theorem dX9_sets_9 : decode cX9_sets 9 = .ok (.iconst 2, 1) := by decide +kernel
theorem dX9_sets_10 : decode cX9_sets 10 = .ok (.iaload, 1) := by decide +kernel
theorem dX9_sets_11 : decode cX9_sets 11 = .ok (.bipush 9, 2) := by decide +kernel
theorem dX9_sets_13 : decode cX9_sets 13 = .ok (.if_icmp .eq 5, 3) := by decide +kernel
theorem dX9_sets_16 : decode cX9_sets 16 = .ok (.iconst 2, 1) := by decide +kernel
theorem dX9_sets_17 : decode cX9_sets 17 = .ok (.ireturn, 1) := by decide +kernel
theorem dX9_sets_18 : decode cX9_sets 18 = .ok (.aload_n 0, 1) := by decide +kernel
theorem dX9_sets_19 : decode cX9_sets 19 = .ok (.iload_n 1, 1) := by decide +kernel
theorem dX9_sets_20 : decode cX9_sets 20 = .ok (.ifCond .ne 7, 3) := by decide +kernel
theorem dX9_sets_23 : decode cX9_sets 23 = .ok (.iload_n 2, 1) := by decide +kernel
theorem dX9_sets_24 : decode cX9_sets 24 = .ok (.goto 7, 3) := by decide +kernel
theorem dX9_sets_27 : decode cX9_sets 27 = .ok (.aload_n 0, 1) := by decide +kernel
theorem dX9_sets_28 : decode cX9_sets 28 = .ok (.getfield 164, 3) := by decide +kernel
theorem dX9_sets_31 : decode cX9_sets 31 = .ok (.putfield 164, 3) := by decide +kernel
theorem dX9_sets_34 : decode cX9_sets 34 = .ok (.aload_n 0, 1) := by decide +kernel
theorem dX9_sets_35 : decode cX9_sets 35 = .ok (.iload_n 1, 1) := by decide +kernel
theorem dX9_sets_36 : decode cX9_sets 36 = .ok (.iconst 1, 1) := by decide +kernel
theorem dX9_sets_37 : decode cX9_sets 37 = .ok (.if_icmp .ne 7, 3) := by decide +kernel
theorem dX9_sets_40 : decode cX9_sets 40 = .ok (.iload_n 2, 1) := by decide +kernel
theorem dX9_sets_41 : decode cX9_sets 41 = .ok (.goto 7, 3) := by decide +kernel
theorem dX9_sets_44 : decode cX9_sets 44 = .ok (.aload_n 0, 1) := by decide +kernel
theorem dX9_sets_45 : decode cX9_sets 45 = .ok (.getfield 178, 3) := by decide +kernel
theorem dX9_sets_48 : decode cX9_sets 48 = .ok (.putfield 178, 3) := by decide +kernel
theorem dX9_sets_51 : decode cX9_sets 51 = .ok (.aload_n 0, 1) := by decide +kernel
theorem dX9_sets_52 : decode cX9_sets 52 = .ok (.iload_n 1, 1) := by decide +kernel
theorem dX9_sets_53 : decode cX9_sets 53 = .ok (.iconst 5, 1) := by decide +kernel
theorem dX9_sets_54 : decode cX9_sets 54 = .ok (.if_icmp .ne 7, 3) := by decide +kernel
theorem dX9_sets_57 : decode cX9_sets 57 = .ok (.iload_n 2, 1) := by decide +kernel
theorem dX9_sets_58 : decode cX9_sets 58 = .ok (.goto 7, 3) := by decide +kernel
theorem dX9_sets_61 : decode cX9_sets 61 = .ok (.aload_n 0, 1) := by decide +kernel
theorem dX9_sets_62 : decode cX9_sets 62 = .ok (.getfield 167, 3) := by decide +kernel
theorem dX9_sets_65 : decode cX9_sets 65 = .ok (.putfield 167, 3) := by decide +kernel
theorem dX9_sets_68 : decode cX9_sets 68 = .ok (.iconst 0, 1) := by decide +kernel
theorem dX9_sets_69 : decode cX9_sets 69 = .ok (.ireturn, 1) := by decide +kernel
theorem dX9_prove_0 : decode cX9_prove 0 = .ok (.aload_n 0, 1) := by decide +kernel
theorem dX9_prove_1 : decode cX9_prove 1 = .ok (.aload_n 0, 1) := by decide +kernel
theorem dX9_prove_2 : decode cX9_prove 2 = .ok (.iload_n 1, 1) := by decide +kernel
theorem dX9_prove_3 : decode cX9_prove 3 = .ok (.invokevirtual 148, 3) := by decide +kernel
theorem dX9_prove_6 : decode cX9_prove 6 = .ok (.ifCond .eq 15, 3) := by decide +kernel
theorem dX9_prove_9 : decode cX9_prove 9 = .ok (.aload_n 0, 1) := by decide +kernel
theorem dX9_prove_10 : decode cX9_prove 10 = .ok (.iload_n 2, 1) := by decide +kernel
theorem dX9_prove_11 : decode cX9_prove 11 = .ok (.invokevirtual 131, 3) := by decide +kernel
theorem dX9_prove_14 : decode cX9_prove 14 = .ok (.ifCond .eq 7, 3) := by decide +kernel
theorem dX9_prove_17 : decode cX9_prove 17 = .ok (.iconst 1, 1) := by decide +kernel
theorem dX9_prove_18 : decode cX9_prove 18 = .ok (.goto 4, 3) := by decide +kernel
theorem dX9_prove_21 : decode cX9_prove 21 = .ok (.iconst 0, 1) := by decide +kernel
theorem dX9_prove_22 : decode cX9_prove 22 = .ok (.iconst 1, 1) := by decide +kernel
theorem dX9_prove_23 : decode cX9_prove 23 = .ok (.iconst 1, 1) := by decide +kernel
theorem dX9_prove_24 : decode cX9_prove 24 = .ok (.invokevirtual 127, 3) := by decide +kernel
theorem dX9_prove_27 : decode cX9_prove 27 = .ok (.ifCond .ne 5, 3) := by decide +kernel
theorem dX9_prove_30 : decode cX9_prove 30 = .ok (.iconst 0, 1) := by decide +kernel
theorem dX9_prove_31 : decode cX9_prove 31 = .ok (.ireturn, 1) := by decide +kernel
theorem dX9_prove_32 : decode cX9_prove 32 = .ok (.aload_n 0, 1) := by decide +kernel
theorem dX9_prove_33 : decode cX9_prove 33 = .ok (.iload_n 1, 1) := by decide +kernel
theorem dX9_prove_34 : decode cX9_prove 34 = .ok (.iload_n 2, 1) := by decide +kernel
theorem dX9_prove_35 : decode cX9_prove 35 = .ok (.iconst 0, 1) := by decide +kernel
theorem dX9_prove_36 : decode cX9_prove 36 = .ok (.iconst 0, 1) := by decide +kernel
theorem dX9_prove_37 : decode cX9_prove 37 = .ok (.invokevirtual 193, 3) := by decide +kernel
theorem dX9_prove_40 : decode cX9_prove 40 = .ok (.istore_n 3, 1) := by decide +kernel
theorem dX9_prove_41 : decode cX9_prove 41 = .ok (.iload_n 3, 1) := by decide +kernel
theorem dX9_prove_42 : decode cX9_prove 42 = .ok (.ifCond .ne 7, 3) := by decide +kernel
theorem dX9_prove_45 : decode cX9_prove 45 = .ok (.iconst (-1), 1) := by decide +kernel
theorem dX9_prove_46 : decode cX9_prove 46 = .ok (.goto 13, 3) := by decide +kernel
theorem dX9_prove_49 : decode cX9_prove 49 = .ok (.sipush 10000, 3) := by decide +kernel
theorem dX9_prove_52 : decode cX9_prove 52 = .ok (.iload_n 3, 1) := by decide +kernel
theorem dX9_prove_53 : decode cX9_prove 53 = .ok (.imul, 1) := by decide +kernel
theorem dX9_prove_54 : decode cX9_prove 54 = .ok (.aload_n 0, 1) := by decide +kernel
theorem dX9_prove_55 : decode cX9_prove 55 = .ok (.getfield 161, 3) := by decide +kernel
theorem dX9_prove_58 : decode cX9_prove 58 = .ok (.iadd, 1) := by decide +kernel
theorem dX9_prove_59 : decode cX9_prove 59 = .ok (.ireturn, 1) := by decide +kernel
theorem dX9_takes_0 : decode cX9_takes 0 = .ok (.aload_n 0, 1) := by decide +kernel
theorem dX9_takes_1 : decode cX9_takes 1 = .ok (.aload_n 0, 1) := by decide +kernel
theorem dX9_takes_2 : decode cX9_takes 2 = .ok (.iload_n 1, 1) := by decide +kernel
theorem dX9_takes_3 : decode cX9_takes 3 = .ok (.invokevirtual 148, 3) := by decide +kernel
theorem dX9_takes_6 : decode cX9_takes 6 = .ok (.ifCond .eq 15, 3) := by decide +kernel
theorem dX9_takes_9 : decode cX9_takes 9 = .ok (.aload_n 0, 1) := by decide +kernel
theorem dX9_takes_10 : decode cX9_takes 10 = .ok (.iload_n 2, 1) := by decide +kernel
theorem dX9_takes_11 : decode cX9_takes 11 = .ok (.invokevirtual 131, 3) := by decide +kernel
theorem dX9_takes_14 : decode cX9_takes 14 = .ok (.ifCond .eq 7, 3) := by decide +kernel
theorem dX9_takes_17 : decode cX9_takes 17 = .ok (.iconst 1, 1) := by decide +kernel
theorem dX9_takes_18 : decode cX9_takes 18 = .ok (.goto 4, 3) := by decide +kernel
theorem dX9_takes_21 : decode cX9_takes 21 = .ok (.iconst 0, 1) := by decide +kernel
theorem dX9_takes_22 : decode cX9_takes 22 = .ok (.iconst 1, 1) := by decide +kernel
theorem dX9_takes_23 : decode cX9_takes 23 = .ok (.iconst 1, 1) := by decide +kernel
theorem dX9_takes_24 : decode cX9_takes 24 = .ok (.invokevirtual 127, 3) := by decide +kernel
theorem dX9_takes_27 : decode cX9_takes 27 = .ok (.ifCond .ne 5, 3) := by decide +kernel
theorem dX9_takes_30 : decode cX9_takes 30 = .ok (.iconst 0, 1) := by decide +kernel
theorem dX9_takes_31 : decode cX9_takes 31 = .ok (.ireturn, 1) := by decide +kernel
theorem dX9_takes_32 : decode cX9_takes 32 = .ok (.aload_n 0, 1) := by decide +kernel
theorem dX9_takes_33 : decode cX9_takes 33 = .ok (.iload_n 1, 1) := by decide +kernel
theorem dX9_takes_34 : decode cX9_takes 34 = .ok (.iload_n 2, 1) := by decide +kernel
theorem dX9_takes_35 : decode cX9_takes 35 = .ok (.iconst 0, 1) := by decide +kernel
theorem dX9_takes_36 : decode cX9_takes 36 = .ok (.iconst 0, 1) := by decide +kernel
theorem dX9_takes_37 : decode cX9_takes 37 = .ok (.invokevirtual 193, 3) := by decide +kernel
theorem dX9_takes_40 : decode cX9_takes 40 = .ok (.ifCond .ne 33, 3) := by decide +kernel
theorem dX9_takes_43 : decode cX9_takes 43 = .ok (.aload_n 0, 1) := by decide +kernel
theorem dX9_takes_44 : decode cX9_takes 44 = .ok (.getfield 95, 3) := by decide +kernel
theorem dX9_takes_47 : decode cX9_takes 47 = .ok (.iconst 0, 1) := by decide +kernel
theorem dX9_takes_48 : decode cX9_takes 48 = .ok (.iaload, 1) := by decide +kernel
theorem dX9_takes_49 : decode cX9_takes 49 = .ok (.aload_n 0, 1) := by decide +kernel
theorem dX9_takes_50 : decode cX9_takes 50 = .ok (.getfield 95, 3) := by decide +kernel
theorem dX9_takes_53 : decode cX9_takes 53 = .ok (.iconst 1, 1) := by decide +kernel
theorem dX9_takes_54 : decode cX9_takes 54 = .ok (.iaload, 1) := by decide +kernel
theorem dX9_takes_55 : decode cX9_takes 55 = .ok (.iadd, 1) := by decide +kernel
theorem dX9_takes_56 : decode cX9_takes 56 = .ok (.aload_n 0, 1) := by decide +kernel
theorem dX9_takes_57 : decode cX9_takes 57 = .ok (.getfield 95, 3) := by decide +kernel
theorem dX9_takes_60 : decode cX9_takes 60 = .ok (.iconst 2, 1) := by decide +kernel
theorem dX9_takes_61 : decode cX9_takes 61 = .ok (.iaload, 1) := by decide +kernel
theorem dX9_takes_62 : decode cX9_takes 62 = .ok (.iadd, 1) := by decide +kernel
theorem dX9_takes_63 : decode cX9_takes 63 = .ok (.aload_n 0, 1) := by decide +kernel
theorem dX9_takes_64 : decode cX9_takes 64 = .ok (.getfield 95, 3) := by decide +kernel
theorem dX9_takes_67 : decode cX9_takes 67 = .ok (.iconst 3, 1) := by decide +kernel
theorem dX9_takes_68 : decode cX9_takes 68 = .ok (.iaload, 1) := by decide +kernel
theorem dX9_takes_69 : decode cX9_takes 69 = .ok (.iadd, 1) := by decide +kernel
theorem dX9_takes_70 : decode cX9_takes 70 = .ok (.goto 4, 3) := by decide +kernel
theorem dX9_takes_73 : decode cX9_takes 73 = .ok (.iconst (-1), 1) := by decide +kernel
theorem dX9_takes_74 : decode cX9_takes 74 = .ok (.ireturn, 1) := by decide +kernel
theorem dX9_plan_0 : decode cX9_plan 0 = .ok (.aload_n 0, 1) := by decide +kernel
theorem dX9_plan_1 : decode cX9_plan 1 = .ok (.iload_n 1, 1) := by decide +kernel
theorem dX9_plan_2 : decode cX9_plan 2 = .ok (.invokevirtual 148, 3) := by decide +kernel
theorem dX9_plan_5 : decode cX9_plan 5 = .ok (.ifCond .eq 15, 3) := by decide +kernel
theorem dX9_plan_8 : decode cX9_plan 8 = .ok (.aload_n 0, 1) := by decide +kernel
theorem dX9_plan_9 : decode cX9_plan 9 = .ok (.iload_n 2, 1) := by decide +kernel
theorem dX9_plan_10 : decode cX9_plan 10 = .ok (.invokevirtual 131, 3) := by decide +kernel
theorem dX9_plan_13 : decode cX9_plan 13 = .ok (.ifCond .eq 7, 3) := by decide +kernel
theorem dX9_plan_16 : decode cX9_plan 16 = .ok (.iconst 1, 1) := by decide +kernel
theorem dX9_plan_17 : decode cX9_plan 17 = .ok (.goto 4, 3) := by decide +kernel
theorem dX9_plan_20 : decode cX9_plan 20 = .ok (.iconst 0, 1) := by decide +kernel
theorem dX9_plan_21 : decode cX9_plan 21 = .ok (.istore_n 3, 1) := by decide +kernel
theorem dX9_plan_22 : decode cX9_plan 22 = .ok (.aload_n 0, 1) := by decide +kernel
theorem dX9_plan_23 : decode cX9_plan 23 = .ok (.iload_n 3, 1) := by decide +kernel
theorem dX9_plan_24 : decode cX9_plan 24 = .ok (.iload_n 3, 1) := by decide +kernel
theorem dX9_plan_25 : decode cX9_plan 25 = .ok (.ifCond .eq 27, 3) := by decide +kernel
theorem dX9_plan_28 : decode cX9_plan 28 = .ok (.aload_n 0, 1) := by decide +kernel
theorem dX9_plan_29 : decode cX9_plan 29 = .ok (.getfield 59, 3) := by decide +kernel
theorem dX9_plan_32 : decode cX9_plan 32 = .ok (.iload_n 1, 1) := by decide +kernel
theorem dX9_plan_33 : decode cX9_plan 33 = .ok (.iaload, 1) := by decide +kernel
theorem dX9_plan_34 : decode cX9_plan 34 = .ok (.ifCond .ne 18, 3) := by decide +kernel
theorem dX9_plan_37 : decode cX9_plan 37 = .ok (.aload_n 0, 1) := by decide +kernel
theorem dX9_plan_38 : decode cX9_plan 38 = .ok (.iload_n 1, 1) := by decide +kernel
theorem dX9_plan_39 : decode cX9_plan 39 = .ok (.iload_n 2, 1) := by decide +kernel
theorem dX9_plan_40 : decode cX9_plan 40 = .ok (.iconst 0, 1) := by decide +kernel
theorem dX9_plan_41 : decode cX9_plan 41 = .ok (.iconst 0, 1) := by decide +kernel
theorem dX9_plan_42 : decode cX9_plan 42 = .ok (.invokevirtual 193, 3) := by decide +kernel
theorem dX9_plan_45 : decode cX9_plan 45 = .ok (.ifCond .ne 7, 3) := by decide +kernel
theorem dX9_plan_48 : decode cX9_plan 48 = .ok (.iconst 1, 1) := by decide +kernel
theorem dX9_plan_49 : decode cX9_plan 49 = .ok (.goto 4, 3) := by decide +kernel
theorem dX9_plan_52 : decode cX9_plan 52 = .ok (.iconst 0, 1) := by decide +kernel
theorem dX9_plan_53 : decode cX9_plan 53 = .ok (.iconst 1, 1) := by decide +kernel
theorem dX9_plan_54 : decode cX9_plan 54 = .ok (.invokevirtual 127, 3) := by decide +kernel
theorem dX9_plan_57 : decode cX9_plan 57 = .ok (.ifCond .ne 5, 3) := by decide +kernel
theorem dX9_plan_60 : decode cX9_plan 60 = .ok (.iconst 0, 1) := by decide +kernel
theorem dX9_plan_61 : decode cX9_plan 61 = .ok (.ireturn, 1) := by decide +kernel
theorem dX9_plan_62 : decode cX9_plan 62 = .ok (.aload_n 0, 1) := by decide +kernel
theorem dX9_plan_63 : decode cX9_plan 63 = .ok (.getfield 59, 3) := by decide +kernel
theorem dX9_plan_66 : decode cX9_plan 66 = .ok (.iload_n 1, 1) := by decide +kernel
theorem dX9_plan_67 : decode cX9_plan 67 = .ok (.iconst 1, 1) := by decide +kernel
theorem dX9_plan_68 : decode cX9_plan 68 = .ok (.iastore, 1) := by decide +kernel
theorem dX9_plan_69 : decode cX9_plan 69 = .ok (.aload_n 0, 1) := by decide +kernel
theorem dX9_plan_70 : decode cX9_plan 70 = .ok (.getfield 62, 3) := by decide +kernel
theorem dX9_plan_73 : decode cX9_plan 73 = .ok (.iload_n 1, 1) := by decide +kernel
theorem dX9_plan_74 : decode cX9_plan 74 = .ok (.iload_n 2, 1) := by decide +kernel
theorem dX9_plan_75 : decode cX9_plan 75 = .ok (.iastore, 1) := by decide +kernel
theorem dX9_plan_76 : decode cX9_plan 76 = .ok (.aload_n 0, 1) := by decide +kernel
theorem dX9_plan_77 : decode cX9_plan 77 = .ok (.getfield 71, 3) := by decide +kernel
theorem dX9_plan_80 : decode cX9_plan 80 = .ok (.aload_n 0, 1) := by decide +kernel
theorem dX9_plan_81 : decode cX9_plan 81 = .ok (.getfield 138, 3) := by decide +kernel
theorem dX9_plan_84 : decode cX9_plan 84 = .ok (.iload_n 1, 1) := by decide +kernel
theorem dX9_plan_85 : decode cX9_plan 85 = .ok (.iastore, 1) := by decide +kernel
theorem dX9_plan_86 : decode cX9_plan 86 = .ok (.aload_n 0, 1) := by decide +kernel
theorem dX9_plan_87 : decode cX9_plan 87 = .ok (.dup, 1) := by decide +kernel
theorem dX9_plan_88 : decode cX9_plan 88 = .ok (.getfield 138, 3) := by decide +kernel
theorem dX9_plan_91 : decode cX9_plan 91 = .ok (.iconst 1, 1) := by decide +kernel
theorem dX9_plan_92 : decode cX9_plan 92 = .ok (.iadd, 1) := by decide +kernel
theorem dX9_plan_93 : decode cX9_plan 93 = .ok (.putfield 138, 3) := by decide +kernel
theorem dX9_plan_96 : decode cX9_plan 96 = .ok (.aload_n 0, 1) := by decide +kernel
theorem dX9_plan_97 : decode cX9_plan 97 = .ok (.getfield 138, 3) := by decide +kernel
theorem dX9_plan_100 : decode cX9_plan 100 = .ok (.ireturn, 1) := by decide +kernel
theorem dX9_night_0 : decode cX9_night 0 = .ok (.aload_n 0, 1) := by decide +kernel
theorem dX9_night_1 : decode cX9_night 1 = .ok (.iconst 0, 1) := by decide +kernel
theorem dX9_night_2 : decode cX9_night 2 = .ok (.putfield 107, 3) := by decide +kernel
theorem dX9_night_5 : decode cX9_night 5 = .ok (.iconst 0, 1) := by decide +kernel
theorem dX9_night_6 : decode cX9_night 6 = .ok (.istore_n 1, 1) := by decide +kernel
theorem dX9_night_7 : decode cX9_night 7 = .ok (.aload_n 0, 1) := by decide +kernel
theorem dX9_night_8 : decode cX9_night 8 = .ok (.getfield 138, 3) := by decide +kernel
theorem dX9_night_11 : decode cX9_night 11 = .ok (.ifCond .le 7, 3) := by decide +kernel
theorem dX9_night_14 : decode cX9_night 14 = .ok (.iconst 1, 1) := by decide +kernel
theorem dX9_night_15 : decode cX9_night 15 = .ok (.goto 4, 3) := by decide +kernel
theorem dX9_night_18 : decode cX9_night 18 = .ok (.iconst 0, 1) := by decide +kernel
theorem dX9_night_19 : decode cX9_night 19 = .ok (.istore_n 2, 1) := by decide +kernel
theorem dX9_night_20 : decode cX9_night 20 = .ok (.iload_n 2, 1) := by decide +kernel
theorem dX9_night_21 : decode cX9_night 21 = .ok (.ifCond .eq 162, 3) := by decide +kernel
theorem dX9_night_24 : decode cX9_night 24 = .ok (.aload_n 0, 1) := by decide +kernel
theorem dX9_night_25 : decode cX9_night 25 = .ok (.getfield 71, 3) := by decide +kernel
theorem dX9_night_28 : decode cX9_night 28 = .ok (.iconst 0, 1) := by decide +kernel
theorem dX9_night_29 : decode cX9_night 29 = .ok (.iaload, 1) := by decide +kernel
theorem dX9_night_30 : decode cX9_night 30 = .ok (.istore_n 3, 1) := by decide +kernel
theorem dX9_night_31 : decode cX9_night 31 = .ok (.aload_n 0, 1) := by decide +kernel
theorem dX9_night_32 : decode cX9_night 32 = .ok (.iload_n 3, 1) := by decide +kernel
theorem dX9_night_33 : decode cX9_night 33 = .ok (.aload_n 0, 1) := by decide +kernel
theorem dX9_night_34 : decode cX9_night 34 = .ok (.getfield 62, 3) := by decide +kernel
theorem dX9_night_37 : decode cX9_night 37 = .ok (.iload_n 3, 1) := by decide +kernel
theorem dX9_night_38 : decode cX9_night 38 = .ok (.iaload, 1) := by decide +kernel
theorem dX9_night_39 : decode cX9_night 39 = .ok (.aload_n 0, 1) := by decide +kernel
theorem dX9_night_40 : decode cX9_night 40 = .ok (.getfield 65, 3) := by decide +kernel
theorem dX9_night_43 : decode cX9_night 43 = .ok (.iload_n 3, 1) := by decide +kernel
theorem dX9_night_44 : decode cX9_night 44 = .ok (.iaload, 1) := by decide +kernel
theorem dX9_night_45 : decode cX9_night 45 = .ok (.iconst 2, 1) := by decide +kernel
theorem dX9_night_46 : decode cX9_night 46 = .ok (.invokevirtual 193, 3) := by decide +kernel
theorem dX9_night_49 : decode cX9_night 49 = .ok (.istore 4, 2) := by decide +kernel
theorem dX9_night_51 : decode cX9_night 51 = .ok (.aload_n 0, 1) := by decide +kernel
theorem dX9_night_52 : decode cX9_night 52 = .ok (.getfield 65, 3) := by decide +kernel
theorem dX9_night_55 : decode cX9_night 55 = .ok (.iload_n 3, 1) := by decide +kernel
theorem dX9_night_56 : decode cX9_night 56 = .ok (.aload_n 0, 1) := by decide +kernel
theorem dX9_night_57 : decode cX9_night 57 = .ok (.getfield 161, 3) := by decide +kernel
theorem dX9_night_60 : decode cX9_night 60 = .ok (.iastore, 1) := by decide +kernel
theorem dX9_night_61 : decode cX9_night 61 = .ok (.iconst 0, 1) := by decide +kernel
theorem dX9_night_62 : decode cX9_night 62 = .ok (.istore 5, 2) := by decide +kernel
theorem dX9_night_64 : decode cX9_night 64 = .ok (.iload 5, 2) := by decide +kernel
theorem dX9_night_66 : decode cX9_night 66 = .ok (.sipush 144, 3) := by decide +kernel
theorem dX9_night_69 : decode cX9_night 69 = .ok (.if_icmp .ge 29, 3) := by decide +kernel
theorem dX9_night_72 : decode cX9_night 72 = .ok (.aload_n 0, 1) := by decide +kernel
theorem dX9_night_73 : decode cX9_night 73 = .ok (.getfield 44, 3) := by decide +kernel
theorem dX9_night_76 : decode cX9_night 76 = .ok (.sipush 144, 3) := by decide +kernel
theorem dX9_night_79 : decode cX9_night 79 = .ok (.iload_n 3, 1) := by decide +kernel
theorem dX9_night_80 : decode cX9_night 80 = .ok (.imul, 1) := by decide +kernel
theorem dX9_night_81 : decode cX9_night 81 = .ok (.iload 5, 2) := by decide +kernel
theorem dX9_night_83 : decode cX9_night 83 = .ok (.iadd, 1) := by decide +kernel
theorem dX9_night_84 : decode cX9_night 84 = .ok (.aload_n 0, 1) := by decide +kernel
theorem dX9_night_85 : decode cX9_night 85 = .ok (.getfield 92, 3) := by decide +kernel
theorem dX9_night_88 : decode cX9_night 88 = .ok (.iload 5, 2) := by decide +kernel
theorem dX9_night_90 : decode cX9_night 90 = .ok (.iaload, 1) := by decide +kernel
theorem dX9_night_91 : decode cX9_night 91 = .ok (.iastore, 1) := by decide +kernel
theorem dX9_night_92 : decode cX9_night 92 = .ok (.iinc 5 1, 3) := by decide +kernel
theorem dX9_night_95 : decode cX9_night 95 = .ok (.goto (-31), 3) := by decide +kernel
theorem dX9_night_98 : decode cX9_night 98 = .ok (.iload 4, 2) := by decide +kernel
theorem dX9_night_100 : decode cX9_night 100 = .ok (.ifCond .ne 7, 3) := by decide +kernel
theorem dX9_night_103 : decode cX9_night 103 = .ok (.iconst 1, 1) := by decide +kernel
theorem dX9_night_104 : decode cX9_night 104 = .ok (.goto 4, 3) := by decide +kernel
theorem dX9_night_107 : decode cX9_night 107 = .ok (.iconst 0, 1) := by decide +kernel
theorem dX9_night_108 : decode cX9_night 108 = .ok (.istore_n 2, 1) := by decide +kernel
theorem dX9_night_109 : decode cX9_night 109 = .ok (.iload_n 2, 1) := by decide +kernel
theorem dX9_night_110 : decode cX9_night 110 = .ok (.ifCond .eq 70, 3) := by decide +kernel
theorem dX9_night_113 : decode cX9_night 113 = .ok (.aload_n 0, 1) := by decide +kernel
theorem dX9_night_114 : decode cX9_night 114 = .ok (.getfield 59, 3) := by decide +kernel
theorem dX9_night_117 : decode cX9_night 117 = .ok (.iload_n 3, 1) := by decide +kernel
theorem dX9_night_118 : decode cX9_night 118 = .ok (.iconst 2, 1) := by decide +kernel
theorem dX9_night_119 : decode cX9_night 119 = .ok (.iastore, 1) := by decide +kernel
theorem dX9_night_120 : decode cX9_night 120 = .ok (.aload_n 0, 1) := by decide +kernel
theorem dX9_night_121 : decode cX9_night 121 = .ok (.dup, 1) := by decide +kernel
theorem dX9_night_122 : decode cX9_night 122 = .ok (.getfield 138, 3) := by decide +kernel
theorem dX9_night_125 : decode cX9_night 125 = .ok (.iconst 1, 1) := by decide +kernel
theorem dX9_night_126 : decode cX9_night 126 = .ok (.isub, 1) := by decide +kernel
theorem dX9_night_127 : decode cX9_night 127 = .ok (.putfield 138, 3) := by decide +kernel
theorem dX9_night_130 : decode cX9_night 130 = .ok (.iconst 0, 1) := by decide +kernel
theorem dX9_night_131 : decode cX9_night 131 = .ok (.istore 5, 2) := by decide +kernel
theorem dX9_night_133 : decode cX9_night 133 = .ok (.iload 5, 2) := by decide +kernel
theorem dX9_night_135 : decode cX9_night 135 = .ok (.aload_n 0, 1) := by decide +kernel
theorem dX9_night_136 : decode cX9_night 136 = .ok (.getfield 138, 3) := by decide +kernel
theorem dX9_night_139 : decode cX9_night 139 = .ok (.if_icmp .ge 25, 3) := by decide +kernel
theorem dX9_night_142 : decode cX9_night 142 = .ok (.aload_n 0, 1) := by decide +kernel
theorem dX9_night_143 : decode cX9_night 143 = .ok (.getfield 71, 3) := by decide +kernel
theorem dX9_night_146 : decode cX9_night 146 = .ok (.iload 5, 2) := by decide +kernel
theorem dX9_night_148 : decode cX9_night 148 = .ok (.aload_n 0, 1) := by decide +kernel
theorem dX9_night_149 : decode cX9_night 149 = .ok (.getfield 71, 3) := by decide +kernel
theorem dX9_night_152 : decode cX9_night 152 = .ok (.iload 5, 2) := by decide +kernel
theorem dX9_night_154 : decode cX9_night 154 = .ok (.iconst 1, 1) := by decide +kernel
theorem dX9_night_155 : decode cX9_night 155 = .ok (.iadd, 1) := by decide +kernel
theorem dX9_night_156 : decode cX9_night 156 = .ok (.iaload, 1) := by decide +kernel
theorem dX9_night_157 : decode cX9_night 157 = .ok (.iastore, 1) := by decide +kernel
theorem dX9_night_158 : decode cX9_night 158 = .ok (.iinc 5 1, 3) := by decide +kernel
theorem dX9_night_161 : decode cX9_night 161 = .ok (.goto (-28), 3) := by decide +kernel
theorem dX9_night_164 : decode cX9_night 164 = .ok (.iinc 1 1, 3) := by decide +kernel
theorem dX9_night_167 : decode cX9_night 167 = .ok (.aload_n 0, 1) := by decide +kernel
theorem dX9_night_168 : decode cX9_night 168 = .ok (.getfield 138, 3) := by decide +kernel
theorem dX9_night_171 : decode cX9_night 171 = .ok (.ifCond .le 7, 3) := by decide +kernel
theorem dX9_night_174 : decode cX9_night 174 = .ok (.iconst 1, 1) := by decide +kernel
theorem dX9_night_175 : decode cX9_night 175 = .ok (.goto 4, 3) := by decide +kernel
theorem dX9_night_178 : decode cX9_night 178 = .ok (.iconst 0, 1) := by decide +kernel
theorem dX9_night_179 : decode cX9_night 179 = .ok (.istore_n 2, 1) := by decide +kernel
theorem dX9_night_180 : decode cX9_night 180 = .ok (.goto (-160), 3) := by decide +kernel
theorem dX9_night_183 : decode cX9_night 183 = .ok (.iload_n 1, 1) := by decide +kernel
theorem dX9_night_184 : decode cX9_night 184 = .ok (.ireturn, 1) := by decide +kernel
theorem dX9_foresees_0 : decode cX9_foresees 0 = .ok (.aload_n 0, 1) := by decide +kernel
theorem dX9_foresees_1 : decode cX9_foresees 1 = .ok (.iconst 0, 1) := by decide +kernel
theorem dX9_foresees_2 : decode cX9_foresees 2 = .ok (.putfield 107, 3) := by decide +kernel
theorem dX9_foresees_5 : decode cX9_foresees 5 = .ok (.iconst 0, 1) := by decide +kernel
theorem dX9_foresees_6 : decode cX9_foresees 6 = .ok (.istore_n 1, 1) := by decide +kernel
theorem dX9_foresees_7 : decode cX9_foresees 7 = .ok (.iload_n 1, 1) := by decide +kernel
theorem dX9_foresees_8 : decode cX9_foresees 8 = .ok (.bipush 16, 2) := by decide +kernel
theorem dX9_foresees_10 : decode cX9_foresees 10 = .ok (.if_icmp .ge 21, 3) := by decide +kernel
theorem dX9_foresees_13 : decode cX9_foresees 13 = .ok (.aload_n 0, 1) := by decide +kernel
theorem dX9_foresees_14 : decode cX9_foresees 14 = .ok (.getfield 28, 3) := by decide +kernel
theorem dX9_foresees_17 : decode cX9_foresees 17 = .ok (.iload_n 1, 1) := by decide +kernel
theorem dX9_foresees_18 : decode cX9_foresees 18 = .ok (.aload_n 0, 1) := by decide +kernel
theorem dX9_foresees_19 : decode cX9_foresees 19 = .ok (.getfield 25, 3) := by decide +kernel
theorem dX9_foresees_22 : decode cX9_foresees 22 = .ok (.iload_n 1, 1) := by decide +kernel
theorem dX9_foresees_23 : decode cX9_foresees 23 = .ok (.iaload, 1) := by decide +kernel
theorem dX9_foresees_24 : decode cX9_foresees 24 = .ok (.iastore, 1) := by decide +kernel
theorem dX9_foresees_25 : decode cX9_foresees 25 = .ok (.iinc 1 1, 3) := by decide +kernel
theorem dX9_foresees_28 : decode cX9_foresees 28 = .ok (.goto (-21), 3) := by decide +kernel
theorem dX9_foresees_31 : decode cX9_foresees 31 = .ok (.iconst 0, 1) := by decide +kernel
theorem dX9_foresees_32 : decode cX9_foresees 32 = .ok (.istore_n 1, 1) := by decide +kernel
theorem dX9_foresees_33 : decode cX9_foresees 33 = .ok (.iload_n 1, 1) := by decide +kernel
theorem dX9_foresees_34 : decode cX9_foresees 34 = .ok (.aload_n 0, 1) := by decide +kernel
theorem dX9_foresees_35 : decode cX9_foresees 35 = .ok (.getfield 138, 3) := by decide +kernel
theorem dX9_foresees_38 : decode cX9_foresees 38 = .ok (.if_icmp .ge 45, 3) := by decide +kernel
theorem dX9_foresees_41 : decode cX9_foresees 41 = .ok (.aload_n 0, 1) := by decide +kernel
theorem dX9_foresees_42 : decode cX9_foresees 42 = .ok (.aload_n 0, 1) := by decide +kernel
theorem dX9_foresees_43 : decode cX9_foresees 43 = .ok (.getfield 71, 3) := by decide +kernel
theorem dX9_foresees_46 : decode cX9_foresees 46 = .ok (.iload_n 1, 1) := by decide +kernel
theorem dX9_foresees_47 : decode cX9_foresees 47 = .ok (.iaload, 1) := by decide +kernel
theorem dX9_foresees_48 : decode cX9_foresees 48 = .ok (.aload_n 0, 1) := by decide +kernel
theorem dX9_foresees_49 : decode cX9_foresees 49 = .ok (.getfield 62, 3) := by decide +kernel
theorem dX9_foresees_52 : decode cX9_foresees 52 = .ok (.aload_n 0, 1) := by decide +kernel
theorem dX9_foresees_53 : decode cX9_foresees 53 = .ok (.getfield 71, 3) := by decide +kernel
theorem dX9_foresees_56 : decode cX9_foresees 56 = .ok (.iload_n 1, 1) := by decide +kernel
theorem dX9_foresees_57 : decode cX9_foresees 57 = .ok (.iaload, 1) := by decide +kernel
theorem dX9_foresees_58 : decode cX9_foresees 58 = .ok (.iaload, 1) := by decide +kernel
theorem dX9_foresees_59 : decode cX9_foresees 59 = .ok (.aload_n 0, 1) := by decide +kernel
theorem dX9_foresees_60 : decode cX9_foresees 60 = .ok (.getfield 65, 3) := by decide +kernel
theorem dX9_foresees_63 : decode cX9_foresees 63 = .ok (.aload_n 0, 1) := by decide +kernel
theorem dX9_foresees_64 : decode cX9_foresees 64 = .ok (.getfield 71, 3) := by decide +kernel
theorem dX9_foresees_67 : decode cX9_foresees 67 = .ok (.iload_n 1, 1) := by decide +kernel
theorem dX9_foresees_68 : decode cX9_foresees 68 = .ok (.iaload, 1) := by decide +kernel
theorem dX9_foresees_69 : decode cX9_foresees 69 = .ok (.iaload, 1) := by decide +kernel
theorem dX9_foresees_70 : decode cX9_foresees 70 = .ok (.iconst 1, 1) := by decide +kernel
theorem dX9_foresees_71 : decode cX9_foresees 71 = .ok (.invokevirtual 193, 3) := by decide +kernel
theorem dX9_foresees_74 : decode cX9_foresees 74 = .ok (.ifCond .ne 9, 3) := by decide +kernel
theorem dX9_foresees_77 : decode cX9_foresees 77 = .ok (.iinc 1 1, 3) := by decide +kernel
theorem dX9_foresees_80 : decode cX9_foresees 80 = .ok (.goto (-47), 3) := by decide +kernel
theorem dX9_foresees_83 : decode cX9_foresees 83 = .ok (.iload_n 1, 1) := by decide +kernel
theorem dX9_foresees_84 : decode cX9_foresees 84 = .ok (.ireturn, 1) := by decide +kernel
theorem dX9_lacks_0 : decode cX9_lacks 0 = .ok (.aload_n 0, 1) := by decide +kernel
theorem dX9_lacks_1 : decode cX9_lacks 1 = .ok (.iload_n 1, 1) := by decide +kernel
theorem dX9_lacks_2 : decode cX9_lacks 2 = .ok (.iconst 0, 1) := by decide +kernel
theorem dX9_lacks_3 : decode cX9_lacks 3 = .ok (.iconst 3, 1) := by decide +kernel
theorem dX9_lacks_4 : decode cX9_lacks 4 = .ok (.invokestatic 114, 3) := by decide +kernel
theorem dX9_lacks_7 : decode cX9_lacks 7 = .ok (.iconst 1, 1) := by decide +kernel
theorem dX9_lacks_8 : decode cX9_lacks 8 = .ok (.iconst 1, 1) := by decide +kernel
theorem dX9_lacks_9 : decode cX9_lacks 9 = .ok (.invokevirtual 127, 3) := by decide +kernel
theorem dX9_lacks_12 : decode cX9_lacks 12 = .ok (.ifCond .ne 5, 3) := by decide +kernel
theorem dX9_lacks_15 : decode cX9_lacks 15 = .ok (.iconst 0, 1) := by decide +kernel
theorem dX9_lacks_16 : decode cX9_lacks 16 = .ok (.ireturn, 1) := by decide +kernel
theorem dX9_lacks_17 : decode cX9_lacks 17 = .ok (.iconst 0, 1) := by decide +kernel
theorem dX9_lacks_18 : decode cX9_lacks 18 = .ok (.istore_n 2, 1) := by decide +kernel
theorem dX9_lacks_19 : decode cX9_lacks 19 = .ok (.iconst 0, 1) := by decide +kernel
theorem dX9_lacks_20 : decode cX9_lacks 20 = .ok (.istore_n 3, 1) := by decide +kernel
theorem dX9_lacks_21 : decode cX9_lacks 21 = .ok (.iload_n 3, 1) := by decide +kernel
theorem dX9_lacks_22 : decode cX9_lacks 22 = .ok (.aload_n 0, 1) := by decide +kernel
theorem dX9_lacks_23 : decode cX9_lacks 23 = .ok (.getfield 138, 3) := by decide +kernel
theorem dX9_lacks_26 : decode cX9_lacks 26 = .ok (.if_icmp .ge 58, 3) := by decide +kernel
theorem dX9_lacks_29 : decode cX9_lacks 29 = .ok (.iload_n 2, 1) := by decide +kernel
theorem dX9_lacks_30 : decode cX9_lacks 30 = .ok (.aload_n 0, 1) := by decide +kernel
theorem dX9_lacks_31 : decode cX9_lacks 31 = .ok (.aload_n 0, 1) := by decide +kernel
theorem dX9_lacks_32 : decode cX9_lacks 32 = .ok (.getfield 71, 3) := by decide +kernel
theorem dX9_lacks_35 : decode cX9_lacks 35 = .ok (.iload_n 3, 1) := by decide +kernel
theorem dX9_lacks_36 : decode cX9_lacks 36 = .ok (.iaload, 1) := by decide +kernel
theorem dX9_lacks_37 : decode cX9_lacks 37 = .ok (.aload_n 0, 1) := by decide +kernel
theorem dX9_lacks_38 : decode cX9_lacks 38 = .ok (.getfield 62, 3) := by decide +kernel
theorem dX9_lacks_41 : decode cX9_lacks 41 = .ok (.aload_n 0, 1) := by decide +kernel
theorem dX9_lacks_42 : decode cX9_lacks 42 = .ok (.getfield 71, 3) := by decide +kernel
theorem dX9_lacks_45 : decode cX9_lacks 45 = .ok (.iload_n 3, 1) := by decide +kernel
theorem dX9_lacks_46 : decode cX9_lacks 46 = .ok (.iaload, 1) := by decide +kernel
theorem dX9_lacks_47 : decode cX9_lacks 47 = .ok (.iaload, 1) := by decide +kernel
theorem dX9_lacks_48 : decode cX9_lacks 48 = .ok (.aload_n 0, 1) := by decide +kernel
theorem dX9_lacks_49 : decode cX9_lacks 49 = .ok (.getfield 65, 3) := by decide +kernel
theorem dX9_lacks_52 : decode cX9_lacks 52 = .ok (.aload_n 0, 1) := by decide +kernel
theorem dX9_lacks_53 : decode cX9_lacks 53 = .ok (.getfield 71, 3) := by decide +kernel
theorem dX9_lacks_56 : decode cX9_lacks 56 = .ok (.iload_n 3, 1) := by decide +kernel
theorem dX9_lacks_57 : decode cX9_lacks 57 = .ok (.iaload, 1) := by decide +kernel
theorem dX9_lacks_58 : decode cX9_lacks 58 = .ok (.iaload, 1) := by decide +kernel
theorem dX9_lacks_59 : decode cX9_lacks 59 = .ok (.iconst 0, 1) := by decide +kernel
theorem dX9_lacks_60 : decode cX9_lacks 60 = .ok (.invokevirtual 193, 3) := by decide +kernel
theorem dX9_lacks_63 : decode cX9_lacks 63 = .ok (.ifCond .ne 12, 3) := by decide +kernel
theorem dX9_lacks_66 : decode cX9_lacks 66 = .ok (.aload_n 0, 1) := by decide +kernel
theorem dX9_lacks_67 : decode cX9_lacks 67 = .ok (.getfield 95, 3) := by decide +kernel
theorem dX9_lacks_70 : decode cX9_lacks 70 = .ok (.iload_n 1, 1) := by decide +kernel
theorem dX9_lacks_71 : decode cX9_lacks 71 = .ok (.iaload, 1) := by decide +kernel
theorem dX9_lacks_72 : decode cX9_lacks 72 = .ok (.goto 4, 3) := by decide +kernel
theorem dX9_lacks_75 : decode cX9_lacks 75 = .ok (.iconst 0, 1) := by decide +kernel
theorem dX9_lacks_76 : decode cX9_lacks 76 = .ok (.iadd, 1) := by decide +kernel
theorem dX9_lacks_77 : decode cX9_lacks 77 = .ok (.istore_n 2, 1) := by decide +kernel
theorem dX9_lacks_78 : decode cX9_lacks 78 = .ok (.iinc 3 1, 3) := by decide +kernel
theorem dX9_lacks_81 : decode cX9_lacks 81 = .ok (.goto (-60), 3) := by decide +kernel
theorem dX9_lacks_84 : decode cX9_lacks 84 = .ok (.iconst 0, 1) := by decide +kernel
theorem dX9_lacks_85 : decode cX9_lacks 85 = .ok (.istore_n 3, 1) := by decide +kernel
theorem dX9_lacks_86 : decode cX9_lacks 86 = .ok (.iload_n 3, 1) := by decide +kernel
theorem dX9_lacks_87 : decode cX9_lacks 87 = .ok (.aload_n 0, 1) := by decide +kernel
theorem dX9_lacks_88 : decode cX9_lacks 88 = .ok (.getfield 118, 3) := by decide +kernel
theorem dX9_lacks_91 : decode cX9_lacks 91 = .ok (.if_icmp .ge 48, 3) := by decide +kernel
theorem dX9_lacks_94 : decode cX9_lacks 94 = .ok (.iload_n 2, 1) := by decide +kernel
theorem dX9_lacks_95 : decode cX9_lacks 95 = .ok (.aload_n 0, 1) := by decide +kernel
theorem dX9_lacks_96 : decode cX9_lacks 96 = .ok (.getfield 34, 3) := by decide +kernel
theorem dX9_lacks_99 : decode cX9_lacks 99 = .ok (.iload_n 3, 1) := by decide +kernel
theorem dX9_lacks_100 : decode cX9_lacks 100 = .ok (.baload, 1) := by decide +kernel
theorem dX9_lacks_101 : decode cX9_lacks 101 = .ok (.ifCond .eq 29, 3) := by decide +kernel
theorem dX9_lacks_104 : decode cX9_lacks 104 = .ok (.aload_n 0, 1) := by decide +kernel
theorem dX9_lacks_105 : decode cX9_lacks 105 = .ok (.getfield 19, 3) := by decide +kernel
theorem dX9_lacks_108 : decode cX9_lacks 108 = .ok (.iload_n 3, 1) := by decide +kernel
theorem dX9_lacks_109 : decode cX9_lacks 109 = .ok (.iaload, 1) := by decide +kernel
theorem dX9_lacks_110 : decode cX9_lacks 110 = .ok (.iload_n 1, 1) := by decide +kernel
theorem dX9_lacks_111 : decode cX9_lacks 111 = .ok (.if_icmp .ne 19, 3) := by decide +kernel
theorem dX9_lacks_114 : decode cX9_lacks 114 = .ok (.aload_n 0, 1) := by decide +kernel
theorem dX9_lacks_115 : decode cX9_lacks 115 = .ok (.getfield 22, 3) := by decide +kernel
theorem dX9_lacks_118 : decode cX9_lacks 118 = .ok (.iload_n 3, 1) := by decide +kernel
theorem dX9_lacks_119 : decode cX9_lacks 119 = .ok (.iaload, 1) := by decide +kernel
theorem dX9_lacks_120 : decode cX9_lacks 120 = .ok (.aload_n 0, 1) := by decide +kernel
theorem dX9_lacks_121 : decode cX9_lacks 121 = .ok (.getfield 25, 3) := by decide +kernel
theorem dX9_lacks_124 : decode cX9_lacks 124 = .ok (.iload_n 3, 1) := by decide +kernel
theorem dX9_lacks_125 : decode cX9_lacks 125 = .ok (.iaload, 1) := by decide +kernel
theorem dX9_lacks_126 : decode cX9_lacks 126 = .ok (.isub, 1) := by decide +kernel
theorem dX9_lacks_127 : decode cX9_lacks 127 = .ok (.goto 4, 3) := by decide +kernel
theorem dX9_lacks_130 : decode cX9_lacks 130 = .ok (.iconst 0, 1) := by decide +kernel
theorem dX9_lacks_131 : decode cX9_lacks 131 = .ok (.isub, 1) := by decide +kernel
theorem dX9_lacks_132 : decode cX9_lacks 132 = .ok (.istore_n 2, 1) := by decide +kernel
theorem dX9_lacks_133 : decode cX9_lacks 133 = .ok (.iinc 3 1, 3) := by decide +kernel
theorem dX9_lacks_136 : decode cX9_lacks 136 = .ok (.goto (-50), 3) := by decide +kernel
theorem dX9_lacks_139 : decode cX9_lacks 139 = .ok (.iload_n 2, 1) := by decide +kernel
theorem dX9_lacks_140 : decode cX9_lacks 140 = .ok (.ifCond .ge 7, 3) := by decide +kernel
theorem dX9_lacks_143 : decode cX9_lacks 143 = .ok (.iconst 0, 1) := by decide +kernel
theorem dX9_lacks_144 : decode cX9_lacks 144 = .ok (.goto 4, 3) := by decide +kernel
theorem dX9_lacks_147 : decode cX9_lacks 147 = .ok (.iload_n 2, 1) := by decide +kernel
theorem dX9_lacks_148 : decode cX9_lacks 148 = .ok (.ireturn, 1) := by decide +kernel
theorem dX9_idle_0 : decode cX9_idle 0 = .ok (.iload_n 1, 1) := by decide +kernel
theorem dX9_idle_1 : decode cX9_idle 1 = .ok (.iconst 1, 1) := by decide +kernel
theorem dX9_idle_2 : decode cX9_idle 2 = .ok (.sipush 500, 3) := by decide +kernel
theorem dX9_idle_5 : decode cX9_idle 5 = .ok (.invokestatic 114, 3) := by decide +kernel
theorem dX9_idle_8 : decode cX9_idle 8 = .ok (.istore_n 2, 1) := by decide +kernel
theorem dX9_idle_9 : decode cX9_idle 9 = .ok (.aload_n 0, 1) := by decide +kernel
theorem dX9_idle_10 : decode cX9_idle 10 = .ok (.iload_n 2, 1) := by decide +kernel
theorem dX9_idle_11 : decode cX9_idle 11 = .ok (.iload_n 2, 1) := by decide +kernel
theorem dX9_idle_12 : decode cX9_idle 12 = .ok (.ifCond .eq 18, 3) := by decide +kernel
theorem dX9_idle_15 : decode cX9_idle 15 = .ok (.aload_n 0, 1) := by decide +kernel
theorem dX9_idle_16 : decode cX9_idle 16 = .ok (.getfield 158, 3) := by decide +kernel
theorem dX9_idle_19 : decode cX9_idle 19 = .ok (.iload_n 1, 1) := by decide +kernel
theorem dX9_idle_20 : decode cX9_idle 20 = .ok (.iadd, 1) := by decide +kernel
theorem dX9_idle_21 : decode cX9_idle 21 = .ok (.ldc 197, 2) := by decide +kernel
theorem dX9_idle_23 : decode cX9_idle 23 = .ok (.if_icmp .gt 7, 3) := by decide +kernel
theorem dX9_idle_26 : decode cX9_idle 26 = .ok (.iconst 1, 1) := by decide +kernel
theorem dX9_idle_27 : decode cX9_idle 27 = .ok (.goto 4, 3) := by decide +kernel
theorem dX9_idle_30 : decode cX9_idle 30 = .ok (.iconst 0, 1) := by decide +kernel
theorem dX9_idle_31 : decode cX9_idle 31 = .ok (.iconst 1, 1) := by decide +kernel
theorem dX9_idle_32 : decode cX9_idle 32 = .ok (.invokevirtual 127, 3) := by decide +kernel
theorem dX9_idle_35 : decode cX9_idle 35 = .ok (.ifCond .ne 5, 3) := by decide +kernel
theorem dX9_idle_38 : decode cX9_idle 38 = .ok (.iconst 0, 1) := by decide +kernel
theorem dX9_idle_39 : decode cX9_idle 39 = .ok (.ireturn, 1) := by decide +kernel
theorem dX9_idle_40 : decode cX9_idle 40 = .ok (.aload_n 0, 1) := by decide +kernel
theorem dX9_idle_41 : decode cX9_idle 41 = .ok (.dup, 1) := by decide +kernel
theorem dX9_idle_42 : decode cX9_idle 42 = .ok (.getfield 158, 3) := by decide +kernel
theorem dX9_idle_45 : decode cX9_idle 45 = .ok (.iload_n 1, 1) := by decide +kernel
theorem dX9_idle_46 : decode cX9_idle 46 = .ok (.iadd, 1) := by decide +kernel
theorem dX9_idle_47 : decode cX9_idle 47 = .ok (.putfield 158, 3) := by decide +kernel
theorem dX9_idle_50 : decode cX9_idle 50 = .ok (.aload_n 0, 1) := by decide +kernel
theorem dX9_idle_51 : decode cX9_idle 51 = .ok (.aload_n 0, 1) := by decide +kernel
theorem dX9_idle_52 : decode cX9_idle 52 = .ok (.getfield 155, 3) := by decide +kernel
theorem dX9_idle_55 : decode cX9_idle 55 = .ok (.iload_n 1, 1) := by decide +kernel
theorem dX9_idle_56 : decode cX9_idle 56 = .ok (.if_icmp .le 12, 3) := by decide +kernel
theorem dX9_idle_59 : decode cX9_idle 59 = .ok (.aload_n 0, 1) := by decide +kernel
theorem dX9_idle_60 : decode cX9_idle 60 = .ok (.getfield 155, 3) := by decide +kernel
theorem dX9_idle_63 : decode cX9_idle 63 = .ok (.iload_n 1, 1) := by decide +kernel
theorem dX9_idle_64 : decode cX9_idle 64 = .ok (.isub, 1) := by decide +kernel
theorem dX9_idle_65 : decode cX9_idle 65 = .ok (.goto 4, 3) := by decide +kernel
theorem dX9_idle_68 : decode cX9_idle 68 = .ok (.iconst 0, 1) := by decide +kernel
theorem dX9_idle_69 : decode cX9_idle 69 = .ok (.putfield 155, 3) := by decide +kernel
theorem dX9_idle_72 : decode cX9_idle 72 = .ok (.aload_n 0, 1) := by decide +kernel
theorem dX9_idle_73 : decode cX9_idle 73 = .ok (.getfield 158, 3) := by decide +kernel
theorem dX9_idle_76 : decode cX9_idle 76 = .ok (.ireturn, 1) := by decide +kernel
theorem dX9_isGauge_0 : decode cX9_isGauge 0 = .ok (.iload_n 0, 1) := by decide +kernel
theorem dX9_isGauge_1 : decode cX9_isGauge 1 = .ok (.iconst 0, 1) := by decide +kernel
theorem dX9_isGauge_2 : decode cX9_isGauge 2 = .ok (.iconst 3, 1) := by decide +kernel
theorem dX9_isGauge_3 : decode cX9_isGauge 3 = .ok (.invokestatic 114, 3) := by decide +kernel
theorem dX9_isGauge_6 : decode cX9_isGauge 6 = .ok (.ireturn, 1) := by decide +kernel
theorem dX9_calibrate_0 : decode cX9_calibrate 0 = .ok (.aload_n 0, 1) := by decide +kernel
theorem dX9_calibrate_1 : decode cX9_calibrate 1 = .ok (.iload_n 1, 1) := by decide +kernel
theorem dX9_calibrate_2 : decode cX9_calibrate 2 = .ok (.invokestatic 198, 3) := by decide +kernel
theorem dX9_calibrate_5 : decode cX9_calibrate 5 = .ok (.iload_n 2, 1) := by decide +kernel
theorem dX9_calibrate_6 : decode cX9_calibrate 6 = .ok (.iconst 0, 1) := by decide +kernel
theorem dX9_calibrate_7 : decode cX9_calibrate 7 = .ok (.bipush 30, 2) := by decide +kernel
theorem dX9_calibrate_9 : decode cX9_calibrate 9 = .ok (.invokestatic 114, 3) := by decide +kernel
theorem dX9_calibrate_12 : decode cX9_calibrate 12 = .ok (.iconst 1, 1) := by decide +kernel
theorem dX9_calibrate_13 : decode cX9_calibrate 13 = .ok (.invokevirtual 127, 3) := by decide +kernel
theorem dX9_calibrate_16 : decode cX9_calibrate 16 = .ok (.ifCond .ne 5, 3) := by decide +kernel
theorem dX9_calibrate_19 : decode cX9_calibrate 19 = .ok (.iconst 0, 1) := by decide +kernel
theorem dX9_calibrate_20 : decode cX9_calibrate 20 = .ok (.ireturn, 1) := by decide +kernel
theorem dX9_calibrate_21 : decode cX9_calibrate 21 = .ok (.aload_n 0, 1) := by decide +kernel
theorem dX9_calibrate_22 : decode cX9_calibrate 22 = .ok (.getfield 77, 3) := by decide +kernel
theorem dX9_calibrate_25 : decode cX9_calibrate 25 = .ok (.iload_n 1, 1) := by decide +kernel
theorem dX9_calibrate_26 : decode cX9_calibrate 26 = .ok (.iconst 1, 1) := by decide +kernel
theorem dX9_calibrate_27 : decode cX9_calibrate 27 = .ok (.bastore, 1) := by decide +kernel
theorem dX9_calibrate_28 : decode cX9_calibrate 28 = .ok (.aload_n 0, 1) := by decide +kernel
theorem dX9_calibrate_29 : decode cX9_calibrate 29 = .ok (.getfield 74, 3) := by decide +kernel
theorem dX9_calibrate_32 : decode cX9_calibrate 32 = .ok (.iload_n 1, 1) := by decide +kernel
theorem dX9_calibrate_33 : decode cX9_calibrate 33 = .ok (.aload_n 0, 1) := by decide +kernel
theorem dX9_calibrate_34 : decode cX9_calibrate 34 = .ok (.getfield 158, 3) := by decide +kernel
theorem dX9_calibrate_37 : decode cX9_calibrate 37 = .ok (.iastore, 1) := by decide +kernel
theorem dX9_calibrate_38 : decode cX9_calibrate 38 = .ok (.aload_n 0, 1) := by decide +kernel
theorem dX9_calibrate_39 : decode cX9_calibrate 39 = .ok (.getfield 80, 3) := by decide +kernel
theorem dX9_calibrate_42 : decode cX9_calibrate 42 = .ok (.iload_n 1, 1) := by decide +kernel
theorem dX9_calibrate_43 : decode cX9_calibrate 43 = .ok (.iload_n 2, 1) := by decide +kernel
theorem dX9_calibrate_44 : decode cX9_calibrate 44 = .ok (.iastore, 1) := by decide +kernel
theorem dX9_calibrate_45 : decode cX9_calibrate 45 = .ok (.aload_n 0, 1) := by decide +kernel
theorem dX9_calibrate_46 : decode cX9_calibrate 46 = .ok (.getfield 158, 3) := by decide +kernel
theorem dX9_calibrate_49 : decode cX9_calibrate 49 = .ok (.sipush 1000, 3) := by decide +kernel
theorem dX9_calibrate_52 : decode cX9_calibrate 52 = .ok (.iadd, 1) := by decide +kernel
theorem dX9_calibrate_53 : decode cX9_calibrate 53 = .ok (.iconst 1, 1) := by decide +kernel
theorem dX9_calibrate_54 : decode cX9_calibrate 54 = .ok (.isub, 1) := by decide +kernel
theorem dX9_calibrate_55 : decode cX9_calibrate 55 = .ok (.ireturn, 1) := by decide +kernel
theorem dX9_drawing_0 : decode cX9_drawing 0 = .ok (.aload_n 0, 1) := by decide +kernel
theorem dX9_drawing_1 : decode cX9_drawing 1 = .ok (.aload_n 0, 1) := by decide +kernel
theorem dX9_drawing_2 : decode cX9_drawing 2 = .ok (.getfield 124, 3) := by decide +kernel
theorem dX9_drawing_5 : decode cX9_drawing 5 = .ok (.iconst 4, 1) := by decide +kernel
theorem dX9_drawing_6 : decode cX9_drawing 6 = .ok (.if_icmp .ge 7, 3) := by decide +kernel
theorem dX9_drawing_9 : decode cX9_drawing 9 = .ok (.iconst 1, 1) := by decide +kernel
theorem dX9_drawing_10 : decode cX9_drawing 10 = .ok (.goto 4, 3) := by decide +kernel
theorem dX9_drawing_13 : decode cX9_drawing 13 = .ok (.iconst 0, 1) := by decide +kernel
theorem dX9_drawing_14 : decode cX9_drawing 14 = .ok (.iconst 1, 1) := by decide +kernel
theorem dX9_drawing_15 : decode cX9_drawing 15 = .ok (.iconst 1, 1) := by decide +kernel
theorem dX9_drawing_16 : decode cX9_drawing 16 = .ok (.invokevirtual 127, 3) := by decide +kernel
theorem dX9_drawing_19 : decode cX9_drawing 19 = .ok (.ifCond .ne 5, 3) := by decide +kernel
theorem dX9_drawing_22 : decode cX9_drawing 22 = .ok (.iconst 0, 1) := by decide +kernel
theorem dX9_drawing_23 : decode cX9_drawing 23 = .ok (.ireturn, 1) := by decide +kernel
theorem dX9_drawing_24 : decode cX9_drawing 24 = .ok (.aload_n 0, 1) := by decide +kernel
theorem dX9_drawing_25 : decode cX9_drawing 25 = .ok (.dup, 1) := by decide +kernel
theorem dX9_drawing_26 : decode cX9_drawing 26 = .ok (.getfield 124, 3) := by decide +kernel
theorem dX9_drawing_29 : decode cX9_drawing 29 = .ok (.iconst 1, 1) := by decide +kernel
theorem dX9_drawing_30 : decode cX9_drawing 30 = .ok (.iadd, 1) := by decide +kernel
theorem dX9_drawing_31 : decode cX9_drawing 31 = .ok (.putfield 124, 3) := by decide +kernel
theorem dX9_drawing_34 : decode cX9_drawing 34 = .ok (.aload_n 0, 1) := by decide +kernel
theorem dX9_drawing_35 : decode cX9_drawing 35 = .ok (.getfield 124, 3) := by decide +kernel
theorem dX9_drawing_38 : decode cX9_drawing 38 = .ok (.iconst 1, 1) := by decide +kernel
theorem dX9_drawing_39 : decode cX9_drawing 39 = .ok (.isub, 1) := by decide +kernel
theorem dX9_drawing_40 : decode cX9_drawing 40 = .ok (.ireturn, 1) := by decide +kernel
theorem dX9_feature_0 : decode cX9_feature 0 = .ok (.aload_n 0, 1) := by decide +kernel
theorem dX9_feature_1 : decode cX9_feature 1 = .ok (.iload_n 1, 1) := by decide +kernel
theorem dX9_feature_2 : decode cX9_feature 2 = .ok (.invokevirtual 201, 3) := by decide +kernel
theorem dX9_feature_5 : decode cX9_feature 5 = .ok (.ifCond .eq 15, 3) := by decide +kernel
theorem dX9_feature_8 : decode cX9_feature 8 = .ok (.iload_n 2, 1) := by decide +kernel
theorem dX9_feature_9 : decode cX9_feature 9 = .ok (.iload_n 3, 1) := by decide +kernel
theorem dX9_feature_10 : decode cX9_feature 10 = .ok (.invokestatic 151, 3) := by decide +kernel
theorem dX9_feature_13 : decode cX9_feature 13 = .ok (.ifCond .eq 7, 3) := by decide +kernel
theorem dX9_feature_16 : decode cX9_feature 16 = .ok (.iconst 1, 1) := by decide +kernel
theorem dX9_feature_17 : decode cX9_feature 17 = .ok (.goto 4, 3) := by decide +kernel
theorem dX9_feature_20 : decode cX9_feature 20 = .ok (.iconst 0, 1) := by decide +kernel
theorem dX9_feature_21 : decode cX9_feature 21 = .ok (.istore 6, 2) := by decide +kernel
theorem dX9_feature_23 : decode cX9_feature 23 = .ok (.aload_n 0, 1) := by decide +kernel
theorem dX9_feature_24 : decode cX9_feature 24 = .ok (.iload 6, 2) := by decide +kernel
theorem dX9_feature_26 : decode cX9_feature 26 = .ok (.iload 4, 2) := by decide +kernel
theorem dX9_feature_28 : decode cX9_feature 28 = .ok (.iconst 0, 1) := by decide +kernel
theorem dX9_feature_29 : decode cX9_feature 29 = .ok (.bipush 9, 2) := by decide +kernel
theorem dX9_feature_31 : decode cX9_feature 31 = .ok (.invokestatic 114, 3) := by decide +kernel
theorem dX9_feature_34 : decode cX9_feature 34 = .ok (.ifCond .eq 18, 3) := by decide +kernel
theorem dX9_feature_37 : decode cX9_feature 37 = .ok (.iload 5, 2) := by decide +kernel
theorem dX9_feature_39 : decode cX9_feature 39 = .ok (.iconst 1, 1) := by decide +kernel
theorem dX9_feature_40 : decode cX9_feature 40 = .ok (.bipush 99, 2) := by decide +kernel
theorem dX9_feature_42 : decode cX9_feature 42 = .ok (.invokestatic 114, 3) := by decide +kernel
theorem dX9_feature_45 : decode cX9_feature 45 = .ok (.ifCond .eq 7, 3) := by decide +kernel
theorem dX9_feature_48 : decode cX9_feature 48 = .ok (.iconst 1, 1) := by decide +kernel
theorem dX9_feature_49 : decode cX9_feature 49 = .ok (.goto 4, 3) := by decide +kernel
theorem dX9_feature_52 : decode cX9_feature 52 = .ok (.iconst 0, 1) := by decide +kernel
theorem dX9_feature_53 : decode cX9_feature 53 = .ok (.iload 6, 2) := by decide +kernel
theorem dX9_feature_55 : decode cX9_feature 55 = .ok (.ifCond .eq 18, 3) := by decide +kernel
theorem dX9_feature_58 : decode cX9_feature 58 = .ok (.aload_n 0, 1) := by decide +kernel
theorem dX9_feature_59 : decode cX9_feature 59 = .ok (.getfield 86, 3) := by decide +kernel
theorem dX9_feature_62 : decode cX9_feature 62 = .ok (.iload_n 1, 1) := by decide +kernel
theorem dX9_feature_63 : decode cX9_feature 63 = .ok (.iaload, 1) := by decide +kernel
theorem dX9_feature_64 : decode cX9_feature 64 = .ok (.bipush 6, 2) := by decide +kernel
theorem dX9_feature_66 : decode cX9_feature 66 = .ok (.if_icmp .ge 7, 3) := by decide +kernel
theorem dX9_feature_69 : decode cX9_feature 69 = .ok (.iconst 1, 1) := by decide +kernel
theorem dX9_feature_70 : decode cX9_feature 70 = .ok (.goto 4, 3) := by decide +kernel
theorem dX9_feature_73 : decode cX9_feature 73 = .ok (.iconst 0, 1) := by decide +kernel
theorem dX9_feature_74 : decode cX9_feature 74 = .ok (.invokevirtual 127, 3) := by decide +kernel
theorem dX9_feature_77 : decode cX9_feature 77 = .ok (.ifCond .ne 5, 3) := by decide +kernel
theorem dX9_feature_80 : decode cX9_feature 80 = .ok (.iconst 0, 1) := by decide +kernel
theorem dX9_feature_81 : decode cX9_feature 81 = .ok (.ireturn, 1) := by decide +kernel
theorem dX9_feature_82 : decode cX9_feature 82 = .ok (.bipush 6, 2) := by decide +kernel
theorem dX9_feature_84 : decode cX9_feature 84 = .ok (.bipush 6, 2) := by decide +kernel
theorem dX9_feature_86 : decode cX9_feature 86 = .ok (.iload_n 1, 1) := by decide +kernel
theorem dX9_feature_87 : decode cX9_feature 87 = .ok (.imul, 1) := by decide +kernel
theorem dX9_feature_88 : decode cX9_feature 88 = .ok (.aload_n 0, 1) := by decide +kernel
theorem dX9_feature_89 : decode cX9_feature 89 = .ok (.getfield 86, 3) := by decide +kernel
theorem dX9_feature_92 : decode cX9_feature 92 = .ok (.iload_n 1, 1) := by decide +kernel
theorem dX9_feature_93 : decode cX9_feature 93 = .ok (.iaload, 1) := by decide +kernel
theorem dX9_feature_94 : decode cX9_feature 94 = .ok (.iadd, 1) := by decide +kernel
theorem dX9_feature_95 : decode cX9_feature 95 = .ok (.imul, 1) := by decide +kernel
theorem dX9_feature_96 : decode cX9_feature 96 = .ok (.istore 7, 2) := by decide +kernel
theorem dX9_feature_98 : decode cX9_feature 98 = .ok (.aload_n 0, 1) := by decide +kernel
theorem dX9_feature_99 : decode cX9_feature 99 = .ok (.getfield 83, 3) := by decide +kernel
theorem dX9_feature_102 : decode cX9_feature 102 = .ok (.iload 7, 2) := by decide +kernel
theorem dX9_feature_104 : decode cX9_feature 104 = .ok (.iload_n 2, 1) := by decide +kernel
theorem dX9_feature_105 : decode cX9_feature 105 = .ok (.iastore, 1) := by decide +kernel
theorem dX9_feature_106 : decode cX9_feature 106 = .ok (.aload_n 0, 1) := by decide +kernel
theorem dX9_feature_107 : decode cX9_feature 107 = .ok (.getfield 83, 3) := by decide +kernel
theorem dX9_feature_110 : decode cX9_feature 110 = .ok (.iload 7, 2) := by decide +kernel
theorem dX9_feature_112 : decode cX9_feature 112 = .ok (.iconst 1, 1) := by decide +kernel
theorem dX9_feature_113 : decode cX9_feature 113 = .ok (.iadd, 1) := by decide +kernel
theorem dX9_feature_114 : decode cX9_feature 114 = .ok (.iload_n 3, 1) := by decide +kernel
theorem dX9_feature_115 : decode cX9_feature 115 = .ok (.iastore, 1) := by decide +kernel
theorem dX9_feature_116 : decode cX9_feature 116 = .ok (.aload_n 0, 1) := by decide +kernel
theorem dX9_feature_117 : decode cX9_feature 117 = .ok (.getfield 83, 3) := by decide +kernel
theorem dX9_feature_120 : decode cX9_feature 120 = .ok (.iload 7, 2) := by decide +kernel
theorem dX9_feature_122 : decode cX9_feature 122 = .ok (.iconst 2, 1) := by decide +kernel
theorem dX9_feature_123 : decode cX9_feature 123 = .ok (.iadd, 1) := by decide +kernel
theorem dX9_feature_124 : decode cX9_feature 124 = .ok (.iload 4, 2) := by decide +kernel
theorem dX9_feature_126 : decode cX9_feature 126 = .ok (.iastore, 1) := by decide +kernel
theorem dX9_feature_127 : decode cX9_feature 127 = .ok (.aload_n 0, 1) := by decide +kernel
theorem dX9_feature_128 : decode cX9_feature 128 = .ok (.getfield 83, 3) := by decide +kernel
theorem dX9_feature_131 : decode cX9_feature 131 = .ok (.iload 7, 2) := by decide +kernel
theorem dX9_feature_133 : decode cX9_feature 133 = .ok (.iconst 3, 1) := by decide +kernel
theorem dX9_feature_134 : decode cX9_feature 134 = .ok (.iadd, 1) := by decide +kernel
theorem dX9_feature_135 : decode cX9_feature 135 = .ok (.iload 5, 2) := by decide +kernel
theorem dX9_feature_137 : decode cX9_feature 137 = .ok (.iastore, 1) := by decide +kernel
theorem dX9_feature_138 : decode cX9_feature 138 = .ok (.aload_n 0, 1) := by decide +kernel
theorem dX9_feature_139 : decode cX9_feature 139 = .ok (.getfield 86, 3) := by decide +kernel
theorem dX9_feature_142 : decode cX9_feature 142 = .ok (.iload_n 1, 1) := by decide +kernel
theorem dX9_feature_143 : decode cX9_feature 143 = .ok (.dup2, 1) := by decide +kernel
theorem dX9_feature_144 : decode cX9_feature 144 = .ok (.iaload, 1) := by decide +kernel
theorem dX9_feature_145 : decode cX9_feature 145 = .ok (.iconst 1, 1) := by decide +kernel
theorem dX9_feature_146 : decode cX9_feature 146 = .ok (.iadd, 1) := by decide +kernel
theorem dX9_feature_147 : decode cX9_feature 147 = .ok (.iastore, 1) := by decide +kernel
theorem dX9_feature_148 : decode cX9_feature 148 = .ok (.aload_n 0, 1) := by decide +kernel
theorem dX9_feature_149 : decode cX9_feature 149 = .ok (.getfield 86, 3) := by decide +kernel
theorem dX9_feature_152 : decode cX9_feature 152 = .ok (.iload_n 1, 1) := by decide +kernel
theorem dX9_feature_153 : decode cX9_feature 153 = .ok (.iaload, 1) := by decide +kernel
theorem dX9_feature_154 : decode cX9_feature 154 = .ok (.ireturn, 1) := by decide +kernel
theorem dX9_allow_0 : decode cX9_allow 0 = .ok (.aload_n 0, 1) := by decide +kernel
theorem dX9_allow_1 : decode cX9_allow 1 = .ok (.iload_n 1, 1) := by decide +kernel
theorem dX9_allow_2 : decode cX9_allow 2 = .ok (.invokevirtual 201, 3) := by decide +kernel
theorem dX9_allow_5 : decode cX9_allow 5 = .ok (.ifCond .eq 35, 3) := by decide +kernel
theorem dX9_allow_8 : decode cX9_allow 8 = .ok (.iload_n 2, 1) := by decide +kernel
theorem dX9_allow_9 : decode cX9_allow 9 = .ok (.iconst 0, 1) := by decide +kernel
theorem dX9_allow_10 : decode cX9_allow 10 = .ok (.aload_n 0, 1) := by decide +kernel
theorem dX9_allow_11 : decode cX9_allow 11 = .ok (.getfield 86, 3) := by decide +kernel
theorem dX9_allow_14 : decode cX9_allow 14 = .ok (.aload_n 0, 1) := by decide +kernel
theorem dX9_allow_15 : decode cX9_allow 15 = .ok (.iload_n 1, 1) := by decide +kernel
theorem dX9_allow_16 : decode cX9_allow 16 = .ok (.invokevirtual 201, 3) := by decide +kernel
theorem dX9_allow_19 : decode cX9_allow 19 = .ok (.ifCond .eq 7, 3) := by decide +kernel
theorem dX9_allow_22 : decode cX9_allow 22 = .ok (.iload_n 1, 1) := by decide +kernel
theorem dX9_allow_23 : decode cX9_allow 23 = .ok (.goto 4, 3) := by decide +kernel
theorem dX9_allow_26 : decode cX9_allow 26 = .ok (.iconst 0, 1) := by decide +kernel
theorem dX9_allow_27 : decode cX9_allow 27 = .ok (.iaload, 1) := by decide +kernel
theorem dX9_allow_28 : decode cX9_allow 28 = .ok (.iconst 1, 1) := by decide +kernel
theorem dX9_allow_29 : decode cX9_allow 29 = .ok (.isub, 1) := by decide +kernel
theorem dX9_allow_30 : decode cX9_allow 30 = .ok (.invokestatic 114, 3) := by decide +kernel
theorem dX9_allow_33 : decode cX9_allow 33 = .ok (.ifCond .eq 7, 3) := by decide +kernel
theorem dX9_allow_36 : decode cX9_allow 36 = .ok (.iconst 1, 1) := by decide +kernel
theorem dX9_allow_37 : decode cX9_allow 37 = .ok (.goto 4, 3) := by decide +kernel
theorem dX9_allow_40 : decode cX9_allow 40 = .ok (.iconst 0, 1) := by decide +kernel
theorem dX9_allow_41 : decode cX9_allow 41 = .ok (.istore 5, 2) := by decide +kernel
theorem dX9_allow_43 : decode cX9_allow 43 = .ok (.aload_n 0, 1) := by decide +kernel
theorem dX9_allow_44 : decode cX9_allow 44 = .ok (.iload 5, 2) := by decide +kernel
theorem dX9_allow_46 : decode cX9_allow 46 = .ok (.iload_n 3, 1) := by decide +kernel
theorem dX9_allow_47 : decode cX9_allow 47 = .ok (.iconst 0, 1) := by decide +kernel
theorem dX9_allow_48 : decode cX9_allow 48 = .ok (.bipush 99, 2) := by decide +kernel
theorem dX9_allow_50 : decode cX9_allow 50 = .ok (.invokestatic 114, 3) := by decide +kernel
theorem dX9_allow_53 : decode cX9_allow 53 = .ok (.ifCond .eq 18, 3) := by decide +kernel
theorem dX9_allow_56 : decode cX9_allow 56 = .ok (.iload 4, 2) := by decide +kernel
theorem dX9_allow_58 : decode cX9_allow 58 = .ok (.iconst 1, 1) := by decide +kernel
theorem dX9_allow_59 : decode cX9_allow 59 = .ok (.bipush 9, 2) := by decide +kernel
theorem dX9_allow_61 : decode cX9_allow 61 = .ok (.invokestatic 114, 3) := by decide +kernel
theorem dX9_allow_64 : decode cX9_allow 64 = .ok (.ifCond .eq 7, 3) := by decide +kernel
theorem dX9_allow_67 : decode cX9_allow 67 = .ok (.iconst 1, 1) := by decide +kernel
theorem dX9_allow_68 : decode cX9_allow 68 = .ok (.goto 4, 3) := by decide +kernel
theorem dX9_allow_71 : decode cX9_allow 71 = .ok (.iconst 0, 1) := by decide +kernel
theorem dX9_allow_72 : decode cX9_allow 72 = .ok (.iconst 1, 1) := by decide +kernel
theorem dX9_allow_73 : decode cX9_allow 73 = .ok (.invokevirtual 127, 3) := by decide +kernel
theorem dX9_allow_76 : decode cX9_allow 76 = .ok (.ifCond .ne 5, 3) := by decide +kernel
theorem dX9_allow_79 : decode cX9_allow 79 = .ok (.iconst 0, 1) := by decide +kernel
theorem dX9_allow_80 : decode cX9_allow 80 = .ok (.ireturn, 1) := by decide +kernel
theorem dX9_allow_81 : decode cX9_allow 81 = .ok (.bipush 6, 2) := by decide +kernel
theorem dX9_allow_83 : decode cX9_allow 83 = .ok (.bipush 6, 2) := by decide +kernel
theorem dX9_allow_85 : decode cX9_allow 85 = .ok (.iload_n 1, 1) := by decide +kernel
theorem dX9_allow_86 : decode cX9_allow 86 = .ok (.imul, 1) := by decide +kernel
theorem dX9_allow_87 : decode cX9_allow 87 = .ok (.iload_n 2, 1) := by decide +kernel
theorem dX9_allow_88 : decode cX9_allow 88 = .ok (.iadd, 1) := by decide +kernel
theorem dX9_allow_89 : decode cX9_allow 89 = .ok (.imul, 1) := by decide +kernel
theorem dX9_allow_90 : decode cX9_allow 90 = .ok (.istore 6, 2) := by decide +kernel
theorem dX9_allow_92 : decode cX9_allow 92 = .ok (.aload_n 0, 1) := by decide +kernel
theorem dX9_allow_93 : decode cX9_allow 93 = .ok (.getfield 83, 3) := by decide +kernel
theorem dX9_allow_96 : decode cX9_allow 96 = .ok (.iload 6, 2) := by decide +kernel
theorem dX9_allow_98 : decode cX9_allow 98 = .ok (.iconst 4, 1) := by decide +kernel
theorem dX9_allow_99 : decode cX9_allow 99 = .ok (.iadd, 1) := by decide +kernel
theorem dX9_allow_100 : decode cX9_allow 100 = .ok (.iload_n 3, 1) := by decide +kernel
theorem dX9_allow_101 : decode cX9_allow 101 = .ok (.iastore, 1) := by decide +kernel
theorem dX9_allow_102 : decode cX9_allow 102 = .ok (.aload_n 0, 1) := by decide +kernel
theorem dX9_allow_103 : decode cX9_allow 103 = .ok (.getfield 83, 3) := by decide +kernel
theorem dX9_allow_106 : decode cX9_allow 106 = .ok (.iload 6, 2) := by decide +kernel
theorem dX9_allow_108 : decode cX9_allow 108 = .ok (.iconst 5, 1) := by decide +kernel
theorem dX9_allow_109 : decode cX9_allow 109 = .ok (.iadd, 1) := by decide +kernel
theorem dX9_allow_110 : decode cX9_allow 110 = .ok (.iload 4, 2) := by decide +kernel
theorem dX9_allow_112 : decode cX9_allow 112 = .ok (.iastore, 1) := by decide +kernel
theorem dX9_allow_113 : decode cX9_allow 113 = .ok (.aload_n 0, 1) := by decide +kernel
theorem dX9_allow_114 : decode cX9_allow 114 = .ok (.getfield 83, 3) := by decide +kernel
theorem dX9_allow_117 : decode cX9_allow 117 = .ok (.iload 6, 2) := by decide +kernel
theorem dX9_allow_119 : decode cX9_allow 119 = .ok (.iconst 3, 1) := by decide +kernel
theorem dX9_allow_120 : decode cX9_allow 120 = .ok (.iadd, 1) := by decide +kernel
theorem dX9_allow_121 : decode cX9_allow 121 = .ok (.iaload, 1) := by decide +kernel
theorem dX9_allow_122 : decode cX9_allow 122 = .ok (.iload_n 3, 1) := by decide +kernel
theorem dX9_allow_123 : decode cX9_allow 123 = .ok (.iadd, 1) := by decide +kernel
theorem dX9_allow_124 : decode cX9_allow 124 = .ok (.ireturn, 1) := by decide +kernel
theorem dX9_sizeOf_0 : decode cX9_sizeOf 0 = .ok (.sipush 1000, 3) := by decide +kernel
theorem dX9_sizeOf_3 : decode cX9_sizeOf 3 = .ok (.aload_n 0, 1) := by decide +kernel
theorem dX9_sizeOf_4 : decode cX9_sizeOf 4 = .ok (.getfield 44, 3) := by decide +kernel
theorem dX9_sizeOf_7 : decode cX9_sizeOf 7 = .ok (.iload_n 1, 1) := by decide +kernel
theorem dX9_sizeOf_8 : decode cX9_sizeOf 8 = .ok (.iaload, 1) := by decide +kernel
theorem dX9_sizeOf_9 : decode cX9_sizeOf 9 = .ok (.imul, 1) := by decide +kernel
theorem dX9_sizeOf_10 : decode cX9_sizeOf 10 = .ok (.istore_n 2, 1) := by decide +kernel
theorem dX9_sizeOf_11 : decode cX9_sizeOf 11 = .ok (.iconst 0, 1) := by decide +kernel
theorem dX9_sizeOf_12 : decode cX9_sizeOf 12 = .ok (.istore_n 3, 1) := by decide +kernel
theorem dX9_sizeOf_13 : decode cX9_sizeOf 13 = .ok (.iload_n 3, 1) := by decide +kernel
theorem dX9_sizeOf_14 : decode cX9_sizeOf 14 = .ok (.iconst 4, 1) := by decide +kernel
theorem dX9_sizeOf_15 : decode cX9_sizeOf 15 = .ok (.if_icmp .ge 32, 3) := by decide +kernel
theorem dX9_sizeOf_18 : decode cX9_sizeOf 18 = .ok (.aload_n 0, 1) := by decide +kernel
theorem dX9_sizeOf_19 : decode cX9_sizeOf 19 = .ok (.getfield 50, 3) := by decide +kernel
theorem dX9_sizeOf_22 : decode cX9_sizeOf 22 = .ok (.iload_n 1, 1) := by decide +kernel
theorem dX9_sizeOf_23 : decode cX9_sizeOf 23 = .ok (.iaload, 1) := by decide +kernel
theorem dX9_sizeOf_24 : decode cX9_sizeOf 24 = .ok (.iconst (-1), 1) := by decide +kernel
theorem dX9_sizeOf_25 : decode cX9_sizeOf 25 = .ok (.if_icmp .eq 22, 3) := by decide +kernel
theorem dX9_sizeOf_28 : decode cX9_sizeOf 28 = .ok (.iload_n 2, 1) := by decide +kernel
theorem dX9_sizeOf_29 : decode cX9_sizeOf 29 = .ok (.aload_n 0, 1) := by decide +kernel
theorem dX9_sizeOf_30 : decode cX9_sizeOf 30 = .ok (.getfield 53, 3) := by decide +kernel
theorem dX9_sizeOf_33 : decode cX9_sizeOf 33 = .ok (.iconst 4, 1) := by decide +kernel
theorem dX9_sizeOf_34 : decode cX9_sizeOf 34 = .ok (.iload_n 1, 1) := by decide +kernel
theorem dX9_sizeOf_35 : decode cX9_sizeOf 35 = .ok (.imul, 1) := by decide +kernel
theorem dX9_sizeOf_36 : decode cX9_sizeOf 36 = .ok (.iload_n 3, 1) := by decide +kernel
theorem dX9_sizeOf_37 : decode cX9_sizeOf 37 = .ok (.iadd, 1) := by decide +kernel
theorem dX9_sizeOf_38 : decode cX9_sizeOf 38 = .ok (.iaload, 1) := by decide +kernel
theorem dX9_sizeOf_39 : decode cX9_sizeOf 39 = .ok (.iadd, 1) := by decide +kernel
theorem dX9_sizeOf_40 : decode cX9_sizeOf 40 = .ok (.istore_n 2, 1) := by decide +kernel
theorem dX9_sizeOf_41 : decode cX9_sizeOf 41 = .ok (.iinc 3 1, 3) := by decide +kernel
theorem dX9_sizeOf_44 : decode cX9_sizeOf 44 = .ok (.goto (-31), 3) := by decide +kernel
theorem dX9_sizeOf_47 : decode cX9_sizeOf 47 = .ok (.iload_n 2, 1) := by decide +kernel
theorem dX9_sizeOf_48 : decode cX9_sizeOf 48 = .ok (.ireturn, 1) := by decide +kernel
theorem dX9_tells_0 : decode cX9_tells 0 = .ok (.aload_n 0, 1) := by decide +kernel
theorem dX9_tells_1 : decode cX9_tells 1 = .ok (.getfield 38, 3) := by decide +kernel
theorem dX9_tells_4 : decode cX9_tells 4 = .ok (.iconst 3, 1) := by decide +kernel
theorem dX9_tells_5 : decode cX9_tells 5 = .ok (.iload_n 1, 1) := by decide +kernel
theorem dX9_tells_6 : decode cX9_tells 6 = .ok (.imul, 1) := by decide +kernel
theorem dX9_tells_7 : decode cX9_tells 7 = .ok (.iconst 2, 1) := by decide +kernel
theorem dX9_tells_8 : decode cX9_tells 8 = .ok (.iadd, 1) := by decide +kernel
theorem dX9_tells_9 : decode cX9_tells 9 = .ok (.aload_n 0, 1) := by decide +kernel
theorem dX9_tells_10 : decode cX9_tells 10 = .ok (.getfield 38, 3) := by decide +kernel
theorem dX9_tells_13 : decode cX9_tells 13 = .ok (.iconst 3, 1) := by decide +kernel
theorem dX9_tells_14 : decode cX9_tells 14 = .ok (.iload_n 1, 1) := by decide +kernel
theorem dX9_tells_15 : decode cX9_tells 15 = .ok (.imul, 1) := by decide +kernel
theorem dX9_tells_16 : decode cX9_tells 16 = .ok (.iconst 1, 1) := by decide +kernel
theorem dX9_tells_17 : decode cX9_tells 17 = .ok (.iadd, 1) := by decide +kernel
theorem dX9_tells_18 : decode cX9_tells 18 = .ok (.iaload, 1) := by decide +kernel
theorem dX9_tells_19 : decode cX9_tells 19 = .ok (.iastore, 1) := by decide +kernel
theorem dX9_tells_20 : decode cX9_tells 20 = .ok (.aload_n 0, 1) := by decide +kernel
theorem dX9_tells_21 : decode cX9_tells 21 = .ok (.getfield 38, 3) := by decide +kernel
theorem dX9_tells_24 : decode cX9_tells 24 = .ok (.iconst 3, 1) := by decide +kernel
theorem dX9_tells_25 : decode cX9_tells 25 = .ok (.iload_n 1, 1) := by decide +kernel
theorem dX9_tells_26 : decode cX9_tells 26 = .ok (.imul, 1) := by decide +kernel
theorem dX9_tells_27 : decode cX9_tells 27 = .ok (.iconst 1, 1) := by decide +kernel
theorem dX9_tells_28 : decode cX9_tells 28 = .ok (.iadd, 1) := by decide +kernel
theorem dX9_tells_29 : decode cX9_tells 29 = .ok (.aload_n 0, 1) := by decide +kernel
theorem dX9_tells_30 : decode cX9_tells 30 = .ok (.getfield 38, 3) := by decide +kernel
theorem dX9_tells_33 : decode cX9_tells 33 = .ok (.iconst 3, 1) := by decide +kernel
theorem dX9_tells_34 : decode cX9_tells 34 = .ok (.iload_n 1, 1) := by decide +kernel
theorem dX9_tells_35 : decode cX9_tells 35 = .ok (.imul, 1) := by decide +kernel
theorem dX9_tells_36 : decode cX9_tells 36 = .ok (.iaload, 1) := by decide +kernel
theorem dX9_tells_37 : decode cX9_tells 37 = .ok (.iastore, 1) := by decide +kernel
theorem dX9_tells_38 : decode cX9_tells 38 = .ok (.aload_n 0, 1) := by decide +kernel
theorem dX9_tells_39 : decode cX9_tells 39 = .ok (.getfield 38, 3) := by decide +kernel
theorem dX9_tells_42 : decode cX9_tells 42 = .ok (.iconst 3, 1) := by decide +kernel
theorem dX9_tells_43 : decode cX9_tells 43 = .ok (.iload_n 1, 1) := by decide +kernel
theorem dX9_tells_44 : decode cX9_tells 44 = .ok (.imul, 1) := by decide +kernel
theorem dX9_tells_45 : decode cX9_tells 45 = .ok (.iload_n 2, 1) := by decide +kernel
theorem dX9_tells_46 : decode cX9_tells 46 = .ok (.iastore, 1) := by decide +kernel
theorem dX9_tells_47 : decode cX9_tells 47 = .ok (.aload_n 0, 1) := by decide +kernel
theorem dX9_tells_48 : decode cX9_tells 48 = .ok (.getfield 41, 3) := by decide +kernel
theorem dX9_tells_51 : decode cX9_tells 51 = .ok (.iload_n 1, 1) := by decide +kernel
theorem dX9_tells_52 : decode cX9_tells 52 = .ok (.dup2, 1) := by decide +kernel
theorem dX9_tells_53 : decode cX9_tells 53 = .ok (.iaload, 1) := by decide +kernel
theorem dX9_tells_54 : decode cX9_tells 54 = .ok (.iconst 1, 1) := by decide +kernel
theorem dX9_tells_55 : decode cX9_tells 55 = .ok (.iadd, 1) := by decide +kernel
theorem dX9_tells_56 : decode cX9_tells 56 = .ok (.iastore, 1) := by decide +kernel
theorem dX9_tells_57 : decode cX9_tells 57 = .ok (.return_, 1) := by decide +kernel
theorem dX9_verdictOf_0 : decode cX9_verdictOf 0 = .ok (.bipush 18, 2) := by decide +kernel
theorem dX9_verdictOf_2 : decode cX9_verdictOf 2 = .ok (.iload_n 1, 1) := by decide +kernel
theorem dX9_verdictOf_3 : decode cX9_verdictOf 3 = .ok (.imul, 1) := by decide +kernel
theorem dX9_verdictOf_4 : decode cX9_verdictOf 4 = .ok (.istore_n 2, 1) := by decide +kernel
theorem dX9_verdictOf_5 : decode cX9_verdictOf 5 = .ok (.iconst 0, 1) := by decide +kernel
theorem dX9_verdictOf_6 : decode cX9_verdictOf 6 = .ok (.istore_n 3, 1) := by decide +kernel
theorem dX9_verdictOf_7 : decode cX9_verdictOf 7 = .ok (.iconst 0, 1) := by decide +kernel
theorem dX9_verdictOf_8 : decode cX9_verdictOf 8 = .ok (.istore 4, 2) := by decide +kernel
theorem dX9_verdictOf_10 : decode cX9_verdictOf 10 = .ok (.iload 4, 2) := by decide +kernel
theorem dX9_verdictOf_12 : decode cX9_verdictOf 12 = .ok (.aload_n 0, 1) := by decide +kernel
theorem dX9_verdictOf_13 : decode cX9_verdictOf 13 = .ok (.getfield 89, 3) := by decide +kernel
theorem dX9_verdictOf_16 : decode cX9_verdictOf 16 = .ok (.iload_n 2, 1) := by decide +kernel
theorem dX9_verdictOf_17 : decode cX9_verdictOf 17 = .ok (.bipush 17, 2) := by decide +kernel
theorem dX9_verdictOf_19 : decode cX9_verdictOf 19 = .ok (.iadd, 1) := by decide +kernel
theorem dX9_verdictOf_20 : decode cX9_verdictOf 20 = .ok (.iaload, 1) := by decide +kernel
theorem dX9_verdictOf_21 : decode cX9_verdictOf 21 = .ok (.if_icmp .ge 101, 3) := by decide +kernel
theorem dX9_verdictOf_24 : decode cX9_verdictOf 24 = .ok (.aload_n 0, 1) := by decide +kernel
theorem dX9_verdictOf_25 : decode cX9_verdictOf 25 = .ok (.getfield 89, 3) := by decide +kernel
theorem dX9_verdictOf_28 : decode cX9_verdictOf 28 = .ok (.iload_n 2, 1) := by decide +kernel
theorem dX9_verdictOf_29 : decode cX9_verdictOf 29 = .ok (.iconst 5, 1) := by decide +kernel
theorem dX9_verdictOf_30 : decode cX9_verdictOf 30 = .ok (.iadd, 1) := by decide +kernel
theorem dX9_verdictOf_31 : decode cX9_verdictOf 31 = .ok (.iload 4, 2) := by decide +kernel
theorem dX9_verdictOf_33 : decode cX9_verdictOf 33 = .ok (.iadd, 1) := by decide +kernel
theorem dX9_verdictOf_34 : decode cX9_verdictOf 34 = .ok (.iaload, 1) := by decide +kernel
theorem dX9_verdictOf_35 : decode cX9_verdictOf 35 = .ok (.invokestatic 204, 3) := by decide +kernel
theorem dX9_verdictOf_38 : decode cX9_verdictOf 38 = .ok (.istore 5, 2) := by decide +kernel
theorem dX9_verdictOf_40 : decode cX9_verdictOf 40 = .ok (.iload 5, 2) := by decide +kernel
theorem dX9_verdictOf_42 : decode cX9_verdictOf 42 = .ok (.aload_n 0, 1) := by decide +kernel
theorem dX9_verdictOf_43 : decode cX9_verdictOf 43 = .ok (.getfield 89, 3) := by decide +kernel
theorem dX9_verdictOf_46 : decode cX9_verdictOf 46 = .ok (.iload_n 2, 1) := by decide +kernel
theorem dX9_verdictOf_47 : decode cX9_verdictOf 47 = .ok (.bipush 11, 2) := by decide +kernel
theorem dX9_verdictOf_49 : decode cX9_verdictOf 49 = .ok (.iadd, 1) := by decide +kernel
theorem dX9_verdictOf_50 : decode cX9_verdictOf 50 = .ok (.iload 4, 2) := by decide +kernel
theorem dX9_verdictOf_52 : decode cX9_verdictOf 52 = .ok (.iadd, 1) := by decide +kernel
theorem dX9_verdictOf_53 : decode cX9_verdictOf 53 = .ok (.iaload, 1) := by decide +kernel
theorem dX9_verdictOf_54 : decode cX9_verdictOf 54 = .ok (.aload_n 0, 1) := by decide +kernel
theorem dX9_verdictOf_55 : decode cX9_verdictOf 55 = .ok (.getfield 89, 3) := by decide +kernel
theorem dX9_verdictOf_58 : decode cX9_verdictOf 58 = .ok (.iload_n 2, 1) := by decide +kernel
theorem dX9_verdictOf_59 : decode cX9_verdictOf 59 = .ok (.iconst 4, 1) := by decide +kernel
theorem dX9_verdictOf_60 : decode cX9_verdictOf 60 = .ok (.iadd, 1) := by decide +kernel
theorem dX9_verdictOf_61 : decode cX9_verdictOf 61 = .ok (.iaload, 1) := by decide +kernel
theorem dX9_verdictOf_62 : decode cX9_verdictOf 62 = .ok (.iadd, 1) := by decide +kernel
theorem dX9_verdictOf_63 : decode cX9_verdictOf 63 = .ok (.if_icmp .le 7, 3) := by decide +kernel
theorem dX9_verdictOf_66 : decode cX9_verdictOf 66 = .ok (.iconst 2, 1) := by decide +kernel
theorem dX9_verdictOf_67 : decode cX9_verdictOf 67 = .ok (.goto 34, 3) := by decide +kernel
theorem dX9_verdictOf_70 : decode cX9_verdictOf 70 = .ok (.iload 5, 2) := by decide +kernel
theorem dX9_verdictOf_72 : decode cX9_verdictOf 72 = .ok (.aload_n 0, 1) := by decide +kernel
theorem dX9_verdictOf_73 : decode cX9_verdictOf 73 = .ok (.getfield 89, 3) := by decide +kernel
theorem dX9_verdictOf_76 : decode cX9_verdictOf 76 = .ok (.iload_n 2, 1) := by decide +kernel
theorem dX9_verdictOf_77 : decode cX9_verdictOf 77 = .ok (.bipush 11, 2) := by decide +kernel
theorem dX9_verdictOf_79 : decode cX9_verdictOf 79 = .ok (.iadd, 1) := by decide +kernel
theorem dX9_verdictOf_80 : decode cX9_verdictOf 80 = .ok (.iload 4, 2) := by decide +kernel
theorem dX9_verdictOf_82 : decode cX9_verdictOf 82 = .ok (.iadd, 1) := by decide +kernel
theorem dX9_verdictOf_83 : decode cX9_verdictOf 83 = .ok (.iaload, 1) := by decide +kernel
theorem dX9_verdictOf_84 : decode cX9_verdictOf 84 = .ok (.aload_n 0, 1) := by decide +kernel
theorem dX9_verdictOf_85 : decode cX9_verdictOf 85 = .ok (.getfield 89, 3) := by decide +kernel
theorem dX9_verdictOf_88 : decode cX9_verdictOf 88 = .ok (.iload_n 2, 1) := by decide +kernel
theorem dX9_verdictOf_89 : decode cX9_verdictOf 89 = .ok (.iconst 4, 1) := by decide +kernel
theorem dX9_verdictOf_90 : decode cX9_verdictOf 90 = .ok (.iadd, 1) := by decide +kernel
theorem dX9_verdictOf_91 : decode cX9_verdictOf 91 = .ok (.iaload, 1) := by decide +kernel
theorem dX9_verdictOf_92 : decode cX9_verdictOf 92 = .ok (.isub, 1) := by decide +kernel
theorem dX9_verdictOf_93 : decode cX9_verdictOf 93 = .ok (.if_icmp .gt 7, 3) := by decide +kernel
theorem dX9_verdictOf_96 : decode cX9_verdictOf 96 = .ok (.iconst 0, 1) := by decide +kernel
theorem dX9_verdictOf_97 : decode cX9_verdictOf 97 = .ok (.goto 4, 3) := by decide +kernel
theorem dX9_verdictOf_100 : decode cX9_verdictOf 100 = .ok (.iconst 1, 1) := by decide +kernel
theorem dX9_verdictOf_101 : decode cX9_verdictOf 101 = .ok (.istore 6, 2) := by decide +kernel
theorem dX9_verdictOf_103 : decode cX9_verdictOf 103 = .ok (.iload 6, 2) := by decide +kernel
theorem dX9_verdictOf_105 : decode cX9_verdictOf 105 = .ok (.iload_n 3, 1) := by decide +kernel
theorem dX9_verdictOf_106 : decode cX9_verdictOf 106 = .ok (.if_icmp .le 8, 3) := by decide +kernel
theorem dX9_verdictOf_109 : decode cX9_verdictOf 109 = .ok (.iload 6, 2) := by decide +kernel
theorem dX9_verdictOf_111 : decode cX9_verdictOf 111 = .ok (.goto 4, 3) := by decide +kernel
theorem dX9_verdictOf_114 : decode cX9_verdictOf 114 = .ok (.iload_n 3, 1) := by decide +kernel
theorem dX9_verdictOf_115 : decode cX9_verdictOf 115 = .ok (.istore_n 3, 1) := by decide +kernel
theorem dX9_verdictOf_116 : decode cX9_verdictOf 116 = .ok (.iinc 4 1, 3) := by decide +kernel
theorem dX9_verdictOf_119 : decode cX9_verdictOf 119 = .ok (.goto (-109), 3) := by decide +kernel
theorem dX9_verdictOf_122 : decode cX9_verdictOf 122 = .ok (.iload_n 3, 1) := by decide +kernel
theorem dX9_verdictOf_123 : decode cX9_verdictOf 123 = .ok (.ireturn, 1) := by decide +kernel
theorem dX9_judge_0 : decode cX9_judge 0 = .ok (.aload_n 0, 1) := by decide +kernel
theorem dX9_judge_1 : decode cX9_judge 1 = .ok (.iload_n 1, 1) := by decide +kernel
theorem dX9_judge_2 : decode cX9_judge 2 = .ok (.invokevirtual 148, 3) := by decide +kernel
theorem dX9_judge_5 : decode cX9_judge 5 = .ok (.ifCond .eq 22, 3) := by decide +kernel
theorem dX9_judge_8 : decode cX9_judge 8 = .ok (.aload_n 0, 1) := by decide +kernel
theorem dX9_judge_9 : decode cX9_judge 9 = .ok (.iload_n 2, 1) := by decide +kernel
theorem dX9_judge_10 : decode cX9_judge 10 = .ok (.invokevirtual 201, 3) := by decide +kernel
theorem dX9_judge_13 : decode cX9_judge 13 = .ok (.ifCond .eq 14, 3) := by decide +kernel
theorem dX9_judge_16 : decode cX9_judge 16 = .ok (.iload_n 3, 1) := by decide +kernel
theorem dX9_judge_17 : decode cX9_judge 17 = .ok (.invokestatic 198, 3) := by decide +kernel
theorem dX9_judge_20 : decode cX9_judge 20 = .ok (.ifCond .eq 7, 3) := by decide +kernel
theorem dX9_judge_23 : decode cX9_judge 23 = .ok (.iconst 1, 1) := by decide +kernel
theorem dX9_judge_24 : decode cX9_judge 24 = .ok (.goto 4, 3) := by decide +kernel
theorem dX9_judge_27 : decode cX9_judge 27 = .ok (.iconst 0, 1) := by decide +kernel
theorem dX9_judge_28 : decode cX9_judge 28 = .ok (.istore 4, 2) := by decide +kernel
theorem dX9_judge_30 : decode cX9_judge 30 = .ok (.iload 4, 2) := by decide +kernel
theorem dX9_judge_32 : decode cX9_judge 32 = .ok (.ifCond .eq 61, 3) := by decide +kernel
theorem dX9_judge_35 : decode cX9_judge 35 = .ok (.aload_n 0, 1) := by decide +kernel
theorem dX9_judge_36 : decode cX9_judge 36 = .ok (.getfield 59, 3) := by decide +kernel
theorem dX9_judge_39 : decode cX9_judge 39 = .ok (.iload_n 1, 1) := by decide +kernel
theorem dX9_judge_40 : decode cX9_judge 40 = .ok (.iaload, 1) := by decide +kernel
theorem dX9_judge_41 : decode cX9_judge 41 = .ok (.iconst 2, 1) := by decide +kernel
theorem dX9_judge_42 : decode cX9_judge 42 = .ok (.if_icmp .ne 51, 3) := by decide +kernel
theorem dX9_judge_45 : decode cX9_judge 45 = .ok (.aload_n 0, 1) := by decide +kernel
theorem dX9_judge_46 : decode cX9_judge 46 = .ok (.getfield 86, 3) := by decide +kernel
theorem dX9_judge_49 : decode cX9_judge 49 = .ok (.iload_n 2, 1) := by decide +kernel
theorem dX9_judge_50 : decode cX9_judge 50 = .ok (.iaload, 1) := by decide +kernel
theorem dX9_judge_51 : decode cX9_judge 51 = .ok (.ifCond .le 42, 3) := by decide +kernel
theorem dX9_judge_54 : decode cX9_judge 54 = .ok (.aload_n 0, 1) := by decide +kernel
theorem dX9_judge_55 : decode cX9_judge 55 = .ok (.getfield 77, 3) := by decide +kernel
theorem dX9_judge_58 : decode cX9_judge 58 = .ok (.iload_n 3, 1) := by decide +kernel
theorem dX9_judge_59 : decode cX9_judge 59 = .ok (.baload, 1) := by decide +kernel
theorem dX9_judge_60 : decode cX9_judge 60 = .ok (.ifCond .eq 33, 3) := by decide +kernel
theorem dX9_judge_63 : decode cX9_judge 63 = .ok (.aload_n 0, 1) := by decide +kernel
theorem dX9_judge_64 : decode cX9_judge 64 = .ok (.getfield 158, 3) := by decide +kernel
theorem dX9_judge_67 : decode cX9_judge 67 = .ok (.aload_n 0, 1) := by decide +kernel
theorem dX9_judge_68 : decode cX9_judge 68 = .ok (.getfield 74, 3) := by decide +kernel
theorem dX9_judge_71 : decode cX9_judge 71 = .ok (.iload_n 3, 1) := by decide +kernel
theorem dX9_judge_72 : decode cX9_judge 72 = .ok (.iaload, 1) := by decide +kernel
theorem dX9_judge_73 : decode cX9_judge 73 = .ok (.sipush 1000, 3) := by decide +kernel
theorem dX9_judge_76 : decode cX9_judge 76 = .ok (.iadd, 1) := by decide +kernel
theorem dX9_judge_77 : decode cX9_judge 77 = .ok (.if_icmp .ge 16, 3) := by decide +kernel
theorem dX9_judge_80 : decode cX9_judge 80 = .ok (.aload_n 0, 1) := by decide +kernel
theorem dX9_judge_81 : decode cX9_judge 81 = .ok (.getfield 208, 3) := by decide +kernel
theorem dX9_judge_84 : decode cX9_judge 84 = .ok (.bipush 30, 2) := by decide +kernel
theorem dX9_judge_86 : decode cX9_judge 86 = .ok (.if_icmp .ge 7, 3) := by decide +kernel
theorem dX9_judge_89 : decode cX9_judge 89 = .ok (.iconst 1, 1) := by decide +kernel
theorem dX9_judge_90 : decode cX9_judge 90 = .ok (.goto 4, 3) := by decide +kernel
theorem dX9_judge_93 : decode cX9_judge 93 = .ok (.iconst 0, 1) := by decide +kernel
theorem dX9_judge_94 : decode cX9_judge 94 = .ok (.istore 5, 2) := by decide +kernel
theorem dX9_judge_96 : decode cX9_judge 96 = .ok (.aload_n 0, 1) := by decide +kernel
theorem dX9_judge_97 : decode cX9_judge 97 = .ok (.iload 4, 2) := by decide +kernel
theorem dX9_judge_99 : decode cX9_judge 99 = .ok (.iload 5, 2) := by decide +kernel
theorem dX9_judge_101 : decode cX9_judge 101 = .ok (.iconst 1, 1) := by decide +kernel
theorem dX9_judge_102 : decode cX9_judge 102 = .ok (.invokevirtual 127, 3) := by decide +kernel
theorem dX9_judge_105 : decode cX9_judge 105 = .ok (.ifCond .ne 5, 3) := by decide +kernel
theorem dX9_judge_108 : decode cX9_judge 108 = .ok (.iconst 0, 1) := by decide +kernel
theorem dX9_judge_109 : decode cX9_judge 109 = .ok (.ireturn, 1) := by decide +kernel
theorem dX9_judge_110 : decode cX9_judge 110 = .ok (.bipush 18, 2) := by decide +kernel
theorem dX9_judge_112 : decode cX9_judge 112 = .ok (.aload_n 0, 1) := by decide +kernel
theorem dX9_judge_113 : decode cX9_judge 113 = .ok (.getfield 208, 3) := by decide +kernel
theorem dX9_judge_116 : decode cX9_judge 116 = .ok (.imul, 1) := by decide +kernel
theorem dX9_judge_117 : decode cX9_judge 117 = .ok (.istore 6, 2) := by decide +kernel
theorem dX9_judge_119 : decode cX9_judge 119 = .ok (.aload_n 0, 1) := by decide +kernel
theorem dX9_judge_120 : decode cX9_judge 120 = .ok (.getfield 89, 3) := by decide +kernel
theorem dX9_judge_123 : decode cX9_judge 123 = .ok (.iload 6, 2) := by decide +kernel
theorem dX9_judge_125 : decode cX9_judge 125 = .ok (.iload_n 1, 1) := by decide +kernel
theorem dX9_judge_126 : decode cX9_judge 126 = .ok (.iastore, 1) := by decide +kernel
theorem dX9_judge_127 : decode cX9_judge 127 = .ok (.aload_n 0, 1) := by decide +kernel
theorem dX9_judge_128 : decode cX9_judge 128 = .ok (.getfield 89, 3) := by decide +kernel
theorem dX9_judge_131 : decode cX9_judge 131 = .ok (.iload 6, 2) := by decide +kernel
theorem dX9_judge_133 : decode cX9_judge 133 = .ok (.iconst 1, 1) := by decide +kernel
theorem dX9_judge_134 : decode cX9_judge 134 = .ok (.iadd, 1) := by decide +kernel
theorem dX9_judge_135 : decode cX9_judge 135 = .ok (.iload_n 2, 1) := by decide +kernel
theorem dX9_judge_136 : decode cX9_judge 136 = .ok (.iastore, 1) := by decide +kernel
theorem dX9_judge_137 : decode cX9_judge 137 = .ok (.aload_n 0, 1) := by decide +kernel
theorem dX9_judge_138 : decode cX9_judge 138 = .ok (.getfield 89, 3) := by decide +kernel
theorem dX9_judge_141 : decode cX9_judge 141 = .ok (.iload 6, 2) := by decide +kernel
theorem dX9_judge_143 : decode cX9_judge 143 = .ok (.iconst 3, 1) := by decide +kernel
theorem dX9_judge_144 : decode cX9_judge 144 = .ok (.iadd, 1) := by decide +kernel
theorem dX9_judge_145 : decode cX9_judge 145 = .ok (.aload_n 0, 1) := by decide +kernel
theorem dX9_judge_146 : decode cX9_judge 146 = .ok (.getfield 158, 3) := by decide +kernel
theorem dX9_judge_149 : decode cX9_judge 149 = .ok (.iastore, 1) := by decide +kernel
theorem dX9_judge_150 : decode cX9_judge 150 = .ok (.aload_n 0, 1) := by decide +kernel
theorem dX9_judge_151 : decode cX9_judge 151 = .ok (.getfield 89, 3) := by decide +kernel
theorem dX9_judge_154 : decode cX9_judge 154 = .ok (.iload 6, 2) := by decide +kernel
theorem dX9_judge_156 : decode cX9_judge 156 = .ok (.iconst 4, 1) := by decide +kernel
theorem dX9_judge_157 : decode cX9_judge 157 = .ok (.iadd, 1) := by decide +kernel
theorem dX9_judge_158 : decode cX9_judge 158 = .ok (.aload_n 0, 1) := by decide +kernel
theorem dX9_judge_159 : decode cX9_judge 159 = .ok (.getfield 80, 3) := by decide +kernel
theorem dX9_judge_162 : decode cX9_judge 162 = .ok (.iload_n 3, 1) := by decide +kernel
theorem dX9_judge_163 : decode cX9_judge 163 = .ok (.iaload, 1) := by decide +kernel
theorem dX9_judge_164 : decode cX9_judge 164 = .ok (.iastore, 1) := by decide +kernel
theorem dX9_judge_165 : decode cX9_judge 165 = .ok (.aload_n 0, 1) := by decide +kernel
theorem dX9_judge_166 : decode cX9_judge 166 = .ok (.getfield 89, 3) := by decide +kernel
theorem dX9_judge_169 : decode cX9_judge 169 = .ok (.iload 6, 2) := by decide +kernel
theorem dX9_judge_171 : decode cX9_judge 171 = .ok (.bipush 17, 2) := by decide +kernel
theorem dX9_judge_173 : decode cX9_judge 173 = .ok (.iadd, 1) := by decide +kernel
theorem dX9_judge_174 : decode cX9_judge 174 = .ok (.aload_n 0, 1) := by decide +kernel
theorem dX9_judge_175 : decode cX9_judge 175 = .ok (.getfield 86, 3) := by decide +kernel
theorem dX9_judge_178 : decode cX9_judge 178 = .ok (.iload_n 2, 1) := by decide +kernel
theorem dX9_judge_179 : decode cX9_judge 179 = .ok (.iaload, 1) := by decide +kernel
theorem dX9_judge_180 : decode cX9_judge 180 = .ok (.iastore, 1) := by decide +kernel
theorem dX9_judge_181 : decode cX9_judge 181 = .ok (.iconst 0, 1) := by decide +kernel
theorem dX9_judge_182 : decode cX9_judge 182 = .ok (.istore 7, 2) := by decide +kernel
theorem dX9_judge_184 : decode cX9_judge 184 = .ok (.iload 7, 2) := by decide +kernel
theorem dX9_judge_186 : decode cX9_judge 186 = .ok (.aload_n 0, 1) := by decide +kernel
theorem dX9_judge_187 : decode cX9_judge 187 = .ok (.getfield 86, 3) := by decide +kernel
theorem dX9_judge_190 : decode cX9_judge 190 = .ok (.iload_n 2, 1) := by decide +kernel
theorem dX9_judge_191 : decode cX9_judge 191 = .ok (.iaload, 1) := by decide +kernel
theorem dX9_judge_192 : decode cX9_judge 192 = .ok (.if_icmp .ge 201, 3) := by decide +kernel
theorem dX9_judge_195 : decode cX9_judge 195 = .ok (.bipush 6, 2) := by decide +kernel
theorem dX9_judge_197 : decode cX9_judge 197 = .ok (.bipush 6, 2) := by decide +kernel
theorem dX9_judge_199 : decode cX9_judge 199 = .ok (.iload_n 2, 1) := by decide +kernel
theorem dX9_judge_200 : decode cX9_judge 200 = .ok (.imul, 1) := by decide +kernel
theorem dX9_judge_201 : decode cX9_judge 201 = .ok (.iload 7, 2) := by decide +kernel
theorem dX9_judge_203 : decode cX9_judge 203 = .ok (.iadd, 1) := by decide +kernel
theorem dX9_judge_204 : decode cX9_judge 204 = .ok (.imul, 1) := by decide +kernel
theorem dX9_judge_205 : decode cX9_judge 205 = .ok (.istore 8, 2) := by decide +kernel
theorem dX9_judge_207 : decode cX9_judge 207 = .ok (.sipush 144, 3) := by decide +kernel
theorem dX9_judge_210 : decode cX9_judge 210 = .ok (.iload_n 1, 1) := by decide +kernel
theorem dX9_judge_211 : decode cX9_judge 211 = .ok (.imul, 1) := by decide +kernel
theorem dX9_judge_212 : decode cX9_judge 212 = .ok (.bipush 12, 2) := by decide +kernel
theorem dX9_judge_214 : decode cX9_judge 214 = .ok (.aload_n 0, 1) := by decide +kernel
theorem dX9_judge_215 : decode cX9_judge 215 = .ok (.getfield 83, 3) := by decide +kernel
theorem dX9_judge_218 : decode cX9_judge 218 = .ok (.iload 8, 2) := by decide +kernel
theorem dX9_judge_220 : decode cX9_judge 220 = .ok (.iconst 1, 1) := by decide +kernel
theorem dX9_judge_221 : decode cX9_judge 221 = .ok (.iadd, 1) := by decide +kernel
theorem dX9_judge_222 : decode cX9_judge 222 = .ok (.iaload, 1) := by decide +kernel
theorem dX9_judge_223 : decode cX9_judge 223 = .ok (.imul, 1) := by decide +kernel
theorem dX9_judge_224 : decode cX9_judge 224 = .ok (.iadd, 1) := by decide +kernel
theorem dX9_judge_225 : decode cX9_judge 225 = .ok (.aload_n 0, 1) := by decide +kernel
theorem dX9_judge_226 : decode cX9_judge 226 = .ok (.getfield 83, 3) := by decide +kernel
theorem dX9_judge_229 : decode cX9_judge 229 = .ok (.iload 8, 2) := by decide +kernel
theorem dX9_judge_231 : decode cX9_judge 231 = .ok (.iaload, 1) := by decide +kernel
theorem dX9_judge_232 : decode cX9_judge 232 = .ok (.iadd, 1) := by decide +kernel
theorem dX9_judge_233 : decode cX9_judge 233 = .ok (.istore 9, 2) := by decide +kernel
theorem dX9_judge_235 : decode cX9_judge 235 = .ok (.aload_n 0, 1) := by decide +kernel
theorem dX9_judge_236 : decode cX9_judge 236 = .ok (.iload 9, 2) := by decide +kernel
theorem dX9_judge_238 : decode cX9_judge 238 = .ok (.invokevirtual 211, 3) := by decide +kernel
theorem dX9_judge_241 : decode cX9_judge 241 = .ok (.aload_n 0, 1) := by decide +kernel
theorem dX9_judge_242 : decode cX9_judge 242 = .ok (.getfield 158, 3) := by decide +kernel
theorem dX9_judge_245 : decode cX9_judge 245 = .ok (.aload_n 0, 1) := by decide +kernel
theorem dX9_judge_246 : decode cX9_judge 246 = .ok (.getfield 74, 3) := by decide +kernel
theorem dX9_judge_249 : decode cX9_judge 249 = .ok (.iload_n 3, 1) := by decide +kernel
theorem dX9_judge_250 : decode cX9_judge 250 = .ok (.iaload, 1) := by decide +kernel
theorem dX9_judge_251 : decode cX9_judge 251 = .ok (.isub, 1) := by decide +kernel
theorem dX9_judge_252 : decode cX9_judge 252 = .ok (.bipush 100, 2) := by decide +kernel
theorem dX9_judge_254 : decode cX9_judge 254 = .ok (.idiv, 1) := by decide +kernel
theorem dX9_judge_255 : decode cX9_judge 255 = .ok (.iadd, 1) := by decide +kernel
theorem dX9_judge_256 : decode cX9_judge 256 = .ok (.sipush 1000, 3) := by decide +kernel
theorem dX9_judge_259 : decode cX9_judge 259 = .ok (.aload_n 0, 1) := by decide +kernel
theorem dX9_judge_260 : decode cX9_judge 260 = .ok (.getfield 83, 3) := by decide +kernel
theorem dX9_judge_263 : decode cX9_judge 263 = .ok (.iload 8, 2) := by decide +kernel
theorem dX9_judge_265 : decode cX9_judge 265 = .ok (.iconst 2, 1) := by decide +kernel
theorem dX9_judge_266 : decode cX9_judge 266 = .ok (.iadd, 1) := by decide +kernel
theorem dX9_judge_267 : decode cX9_judge 267 = .ok (.iaload, 1) := by decide +kernel
theorem dX9_judge_268 : decode cX9_judge 268 = .ok (.imul, 1) := by decide +kernel
theorem dX9_judge_269 : decode cX9_judge 269 = .ok (.isub, 1) := by decide +kernel
theorem dX9_judge_270 : decode cX9_judge 270 = .ok (.istore 10, 2) := by decide +kernel
theorem dX9_judge_272 : decode cX9_judge 272 = .ok (.aload_n 0, 1) := by decide +kernel
theorem dX9_judge_273 : decode cX9_judge 273 = .ok (.getfield 89, 3) := by decide +kernel
theorem dX9_judge_276 : decode cX9_judge 276 = .ok (.iload 6, 2) := by decide +kernel
theorem dX9_judge_278 : decode cX9_judge 278 = .ok (.iconst 5, 1) := by decide +kernel
theorem dX9_judge_279 : decode cX9_judge 279 = .ok (.iadd, 1) := by decide +kernel
theorem dX9_judge_280 : decode cX9_judge 280 = .ok (.iload 7, 2) := by decide +kernel
theorem dX9_judge_282 : decode cX9_judge 282 = .ok (.iadd, 1) := by decide +kernel
theorem dX9_judge_283 : decode cX9_judge 283 = .ok (.iload 10, 2) := by decide +kernel
theorem dX9_judge_285 : decode cX9_judge 285 = .ok (.iastore, 1) := by decide +kernel
theorem dX9_judge_286 : decode cX9_judge 286 = .ok (.aload_n 0, 1) := by decide +kernel
theorem dX9_judge_287 : decode cX9_judge 287 = .ok (.getfield 89, 3) := by decide +kernel
theorem dX9_judge_290 : decode cX9_judge 290 = .ok (.iload 6, 2) := by decide +kernel
theorem dX9_judge_292 : decode cX9_judge 292 = .ok (.bipush 11, 2) := by decide +kernel
theorem dX9_judge_294 : decode cX9_judge 294 = .ok (.iadd, 1) := by decide +kernel
theorem dX9_judge_295 : decode cX9_judge 295 = .ok (.iload 7, 2) := by decide +kernel
theorem dX9_judge_297 : decode cX9_judge 297 = .ok (.iadd, 1) := by decide +kernel
theorem dX9_judge_298 : decode cX9_judge 298 = .ok (.aload_n 0, 1) := by decide +kernel
theorem dX9_judge_299 : decode cX9_judge 299 = .ok (.getfield 83, 3) := by decide +kernel
theorem dX9_judge_302 : decode cX9_judge 302 = .ok (.iload 8, 2) := by decide +kernel
theorem dX9_judge_304 : decode cX9_judge 304 = .ok (.iconst 3, 1) := by decide +kernel
theorem dX9_judge_305 : decode cX9_judge 305 = .ok (.iadd, 1) := by decide +kernel
theorem dX9_judge_306 : decode cX9_judge 306 = .ok (.iaload, 1) := by decide +kernel
theorem dX9_judge_307 : decode cX9_judge 307 = .ok (.aload_n 0, 1) := by decide +kernel
theorem dX9_judge_308 : decode cX9_judge 308 = .ok (.getfield 83, 3) := by decide +kernel
theorem dX9_judge_311 : decode cX9_judge 311 = .ok (.iload 8, 2) := by decide +kernel
theorem dX9_judge_313 : decode cX9_judge 313 = .ok (.iconst 5, 1) := by decide +kernel
theorem dX9_judge_314 : decode cX9_judge 314 = .ok (.iadd, 1) := by decide +kernel
theorem dX9_judge_315 : decode cX9_judge 315 = .ok (.iaload, 1) := by decide +kernel
theorem dX9_judge_316 : decode cX9_judge 316 = .ok (.ifCond .le 15, 3) := by decide +kernel
theorem dX9_judge_319 : decode cX9_judge 319 = .ok (.aload_n 0, 1) := by decide +kernel
theorem dX9_judge_320 : decode cX9_judge 320 = .ok (.getfield 83, 3) := by decide +kernel
theorem dX9_judge_323 : decode cX9_judge 323 = .ok (.iload 8, 2) := by decide +kernel
theorem dX9_judge_325 : decode cX9_judge 325 = .ok (.iconst 4, 1) := by decide +kernel
theorem dX9_judge_326 : decode cX9_judge 326 = .ok (.iadd, 1) := by decide +kernel
theorem dX9_judge_327 : decode cX9_judge 327 = .ok (.iaload, 1) := by decide +kernel
theorem dX9_judge_328 : decode cX9_judge 328 = .ok (.goto 4, 3) := by decide +kernel
theorem dX9_judge_331 : decode cX9_judge 331 = .ok (.iconst 0, 1) := by decide +kernel
theorem dX9_judge_332 : decode cX9_judge 332 = .ok (.iadd, 1) := by decide +kernel
theorem dX9_judge_333 : decode cX9_judge 333 = .ok (.iastore, 1) := by decide +kernel
theorem dX9_judge_334 : decode cX9_judge 334 = .ok (.aload_n 0, 1) := by decide +kernel
theorem dX9_judge_335 : decode cX9_judge 335 = .ok (.getfield 83, 3) := by decide +kernel
theorem dX9_judge_338 : decode cX9_judge 338 = .ok (.iload 8, 2) := by decide +kernel
theorem dX9_judge_340 : decode cX9_judge 340 = .ok (.iconst 5, 1) := by decide +kernel
theorem dX9_judge_341 : decode cX9_judge 341 = .ok (.iadd, 1) := by decide +kernel
theorem dX9_judge_342 : decode cX9_judge 342 = .ok (.dup2, 1) := by decide +kernel
theorem dX9_judge_343 : decode cX9_judge 343 = .ok (.iaload, 1) := by decide +kernel
theorem dX9_judge_344 : decode cX9_judge 344 = .ok (.aload_n 0, 1) := by decide +kernel
theorem dX9_judge_345 : decode cX9_judge 345 = .ok (.getfield 83, 3) := by decide +kernel
theorem dX9_judge_348 : decode cX9_judge 348 = .ok (.iload 8, 2) := by decide +kernel
theorem dX9_judge_350 : decode cX9_judge 350 = .ok (.iconst 5, 1) := by decide +kernel
theorem dX9_judge_351 : decode cX9_judge 351 = .ok (.iadd, 1) := by decide +kernel
theorem dX9_judge_352 : decode cX9_judge 352 = .ok (.iaload, 1) := by decide +kernel
theorem dX9_judge_353 : decode cX9_judge 353 = .ok (.ifCond .le 7, 3) := by decide +kernel
theorem dX9_judge_356 : decode cX9_judge 356 = .ok (.iconst 1, 1) := by decide +kernel
theorem dX9_judge_357 : decode cX9_judge 357 = .ok (.goto 4, 3) := by decide +kernel
theorem dX9_judge_360 : decode cX9_judge 360 = .ok (.iconst 0, 1) := by decide +kernel
theorem dX9_judge_361 : decode cX9_judge 361 = .ok (.isub, 1) := by decide +kernel
theorem dX9_judge_362 : decode cX9_judge 362 = .ok (.iastore, 1) := by decide +kernel
theorem dX9_judge_363 : decode cX9_judge 363 = .ok (.aload_n 0, 1) := by decide +kernel
theorem dX9_judge_364 : decode cX9_judge 364 = .ok (.getfield 50, 3) := by decide +kernel
theorem dX9_judge_367 : decode cX9_judge 367 = .ok (.iload 9, 2) := by decide +kernel
theorem dX9_judge_369 : decode cX9_judge 369 = .ok (.iaload, 1) := by decide +kernel
theorem dX9_judge_370 : decode cX9_judge 370 = .ok (.iconst (-1), 1) := by decide +kernel
theorem dX9_judge_371 : decode cX9_judge 371 = .ok (.if_icmp .eq 16, 3) := by decide +kernel
theorem dX9_judge_374 : decode cX9_judge 374 = .ok (.aload_n 0, 1) := by decide +kernel
theorem dX9_judge_375 : decode cX9_judge 375 = .ok (.aload_n 0, 1) := by decide +kernel
theorem dX9_judge_376 : decode cX9_judge 376 = .ok (.getfield 50, 3) := by decide +kernel
theorem dX9_judge_379 : decode cX9_judge 379 = .ok (.iload 9, 2) := by decide +kernel
theorem dX9_judge_381 : decode cX9_judge 381 = .ok (.iaload, 1) := by decide +kernel
theorem dX9_judge_382 : decode cX9_judge 382 = .ok (.iload 10, 2) := by decide +kernel
theorem dX9_judge_384 : decode cX9_judge 384 = .ok (.invokevirtual 214, 3) := by decide +kernel
theorem dX9_judge_387 : decode cX9_judge 387 = .ok (.iinc 7 1, 3) := by decide +kernel
theorem dX9_judge_390 : decode cX9_judge 390 = .ok (.goto (-206), 3) := by decide +kernel
theorem dX9_judge_393 : decode cX9_judge 393 = .ok (.aload_n 0, 1) := by decide +kernel
theorem dX9_judge_394 : decode cX9_judge 394 = .ok (.dup, 1) := by decide +kernel
theorem dX9_judge_395 : decode cX9_judge 395 = .ok (.getfield 208, 3) := by decide +kernel
theorem dX9_judge_398 : decode cX9_judge 398 = .ok (.iconst 1, 1) := by decide +kernel
theorem dX9_judge_399 : decode cX9_judge 399 = .ok (.iadd, 1) := by decide +kernel
theorem dX9_judge_400 : decode cX9_judge 400 = .ok (.putfield 208, 3) := by decide +kernel
theorem dX9_judge_403 : decode cX9_judge 403 = .ok (.aload_n 0, 1) := by decide +kernel
theorem dX9_judge_404 : decode cX9_judge 404 = .ok (.getfield 89, 3) := by decide +kernel
theorem dX9_judge_407 : decode cX9_judge 407 = .ok (.iload 6, 2) := by decide +kernel
theorem dX9_judge_409 : decode cX9_judge 409 = .ok (.iconst 2, 1) := by decide +kernel
theorem dX9_judge_410 : decode cX9_judge 410 = .ok (.iadd, 1) := by decide +kernel
theorem dX9_judge_411 : decode cX9_judge 411 = .ok (.aload_n 0, 1) := by decide +kernel
theorem dX9_judge_412 : decode cX9_judge 412 = .ok (.aload_n 0, 1) := by decide +kernel
theorem dX9_judge_413 : decode cX9_judge 413 = .ok (.getfield 208, 3) := by decide +kernel
theorem dX9_judge_416 : decode cX9_judge 416 = .ok (.iconst 1, 1) := by decide +kernel
theorem dX9_judge_417 : decode cX9_judge 417 = .ok (.isub, 1) := by decide +kernel
theorem dX9_judge_418 : decode cX9_judge 418 = .ok (.invokevirtual 218, 3) := by decide +kernel
theorem dX9_judge_421 : decode cX9_judge 421 = .ok (.iastore, 1) := by decide +kernel
theorem dX9_judge_422 : decode cX9_judge 422 = .ok (.aload_n 0, 1) := by decide +kernel
theorem dX9_judge_423 : decode cX9_judge 423 = .ok (.getfield 68, 3) := by decide +kernel
theorem dX9_judge_426 : decode cX9_judge 426 = .ok (.iload_n 1, 1) := by decide +kernel
theorem dX9_judge_427 : decode cX9_judge 427 = .ok (.aload_n 0, 1) := by decide +kernel
theorem dX9_judge_428 : decode cX9_judge 428 = .ok (.getfield 89, 3) := by decide +kernel
theorem dX9_judge_431 : decode cX9_judge 431 = .ok (.iload 6, 2) := by decide +kernel
theorem dX9_judge_433 : decode cX9_judge 433 = .ok (.iconst 2, 1) := by decide +kernel
theorem dX9_judge_434 : decode cX9_judge 434 = .ok (.iadd, 1) := by decide +kernel
theorem dX9_judge_435 : decode cX9_judge 435 = .ok (.iaload, 1) := by decide +kernel
theorem dX9_judge_436 : decode cX9_judge 436 = .ok (.iastore, 1) := by decide +kernel
theorem dX9_judge_437 : decode cX9_judge 437 = .ok (.aload_n 0, 1) := by decide +kernel
theorem dX9_judge_438 : decode cX9_judge 438 = .ok (.getfield 208, 3) := by decide +kernel
theorem dX9_judge_441 : decode cX9_judge 441 = .ok (.iconst 1, 1) := by decide +kernel
theorem dX9_judge_442 : decode cX9_judge 442 = .ok (.isub, 1) := by decide +kernel
theorem dX9_judge_443 : decode cX9_judge 443 = .ok (.ireturn, 1) := by decide +kernel
theorem dX9_correct_0 : decode cX9_correct 0 = .ok (.aload_n 0, 1) := by decide +kernel
theorem dX9_correct_1 : decode cX9_correct 1 = .ok (.aload_n 0, 1) := by decide +kernel
theorem dX9_correct_2 : decode cX9_correct 2 = .ok (.iload_n 1, 1) := by decide +kernel
theorem dX9_correct_3 : decode cX9_correct 3 = .ok (.invokevirtual 141, 3) := by decide +kernel
theorem dX9_correct_6 : decode cX9_correct 6 = .ok (.iconst 1, 1) := by decide +kernel
theorem dX9_correct_7 : decode cX9_correct 7 = .ok (.iconst 1, 1) := by decide +kernel
theorem dX9_correct_8 : decode cX9_correct 8 = .ok (.invokevirtual 127, 3) := by decide +kernel
theorem dX9_correct_11 : decode cX9_correct 11 = .ok (.ifCond .ne 5, 3) := by decide +kernel
theorem dX9_correct_14 : decode cX9_correct 14 = .ok (.iconst 0, 1) := by decide +kernel
theorem dX9_correct_15 : decode cX9_correct 15 = .ok (.ireturn, 1) := by decide +kernel
theorem dX9_correct_16 : decode cX9_correct 16 = .ok (.aload_n 0, 1) := by decide +kernel
theorem dX9_correct_17 : decode cX9_correct 17 = .ok (.getfield 38, 3) := by decide +kernel
theorem dX9_correct_20 : decode cX9_correct 20 = .ok (.iconst 3, 1) := by decide +kernel
theorem dX9_correct_21 : decode cX9_correct 21 = .ok (.iload_n 1, 1) := by decide +kernel
theorem dX9_correct_22 : decode cX9_correct 22 = .ok (.imul, 1) := by decide +kernel
theorem dX9_correct_23 : decode cX9_correct 23 = .ok (.iaload, 1) := by decide +kernel
theorem dX9_correct_24 : decode cX9_correct 24 = .ok (.istore_n 2, 1) := by decide +kernel
theorem dX9_correct_25 : decode cX9_correct 25 = .ok (.aload_n 0, 1) := by decide +kernel
theorem dX9_correct_26 : decode cX9_correct 26 = .ok (.getfield 38, 3) := by decide +kernel
theorem dX9_correct_29 : decode cX9_correct 29 = .ok (.iconst 3, 1) := by decide +kernel
theorem dX9_correct_30 : decode cX9_correct 30 = .ok (.iload_n 1, 1) := by decide +kernel
theorem dX9_correct_31 : decode cX9_correct 31 = .ok (.imul, 1) := by decide +kernel
theorem dX9_correct_32 : decode cX9_correct 32 = .ok (.iconst 1, 1) := by decide +kernel
theorem dX9_correct_33 : decode cX9_correct 33 = .ok (.iadd, 1) := by decide +kernel
theorem dX9_correct_34 : decode cX9_correct 34 = .ok (.iaload, 1) := by decide +kernel
theorem dX9_correct_35 : decode cX9_correct 35 = .ok (.istore_n 3, 1) := by decide +kernel
theorem dX9_correct_36 : decode cX9_correct 36 = .ok (.aload_n 0, 1) := by decide +kernel
theorem dX9_correct_37 : decode cX9_correct 37 = .ok (.getfield 38, 3) := by decide +kernel
theorem dX9_correct_40 : decode cX9_correct 40 = .ok (.iconst 3, 1) := by decide +kernel
theorem dX9_correct_41 : decode cX9_correct 41 = .ok (.iload_n 1, 1) := by decide +kernel
theorem dX9_correct_42 : decode cX9_correct 42 = .ok (.imul, 1) := by decide +kernel
theorem dX9_correct_43 : decode cX9_correct 43 = .ok (.iconst 2, 1) := by decide +kernel
theorem dX9_correct_44 : decode cX9_correct 44 = .ok (.iadd, 1) := by decide +kernel
theorem dX9_correct_45 : decode cX9_correct 45 = .ok (.iaload, 1) := by decide +kernel
theorem dX9_correct_46 : decode cX9_correct 46 = .ok (.istore 4, 2) := by decide +kernel
theorem dX9_correct_48 : decode cX9_correct 48 = .ok (.iload_n 2, 1) := by decide +kernel
theorem dX9_correct_49 : decode cX9_correct 49 = .ok (.ifCond .le 16, 3) := by decide +kernel
theorem dX9_correct_52 : decode cX9_correct 52 = .ok (.iload_n 3, 1) := by decide +kernel
theorem dX9_correct_53 : decode cX9_correct 53 = .ok (.ifCond .le 12, 3) := by decide +kernel
theorem dX9_correct_56 : decode cX9_correct 56 = .ok (.iload 4, 2) := by decide +kernel
theorem dX9_correct_58 : decode cX9_correct 58 = .ok (.ifCond .le 7, 3) := by decide +kernel
theorem dX9_correct_61 : decode cX9_correct 61 = .ok (.iconst 1, 1) := by decide +kernel
theorem dX9_correct_62 : decode cX9_correct 62 = .ok (.goto 4, 3) := by decide +kernel
theorem dX9_correct_65 : decode cX9_correct 65 = .ok (.iconst 0, 1) := by decide +kernel
theorem dX9_correct_66 : decode cX9_correct 66 = .ok (.istore 5, 2) := by decide +kernel
theorem dX9_correct_68 : decode cX9_correct 68 = .ok (.iload_n 2, 1) := by decide +kernel
theorem dX9_correct_69 : decode cX9_correct 69 = .ok (.ifCond .ge 16, 3) := by decide +kernel
theorem dX9_correct_72 : decode cX9_correct 72 = .ok (.iload_n 3, 1) := by decide +kernel
theorem dX9_correct_73 : decode cX9_correct 73 = .ok (.ifCond .ge 12, 3) := by decide +kernel
theorem dX9_correct_76 : decode cX9_correct 76 = .ok (.iload 4, 2) := by decide +kernel
theorem dX9_correct_78 : decode cX9_correct 78 = .ok (.ifCond .ge 7, 3) := by decide +kernel
theorem dX9_correct_81 : decode cX9_correct 81 = .ok (.iconst 1, 1) := by decide +kernel
theorem dX9_correct_82 : decode cX9_correct 82 = .ok (.goto 4, 3) := by decide +kernel
theorem dX9_correct_85 : decode cX9_correct 85 = .ok (.iconst 0, 1) := by decide +kernel
theorem dX9_correct_86 : decode cX9_correct 86 = .ok (.istore 6, 2) := by decide +kernel
theorem dX9_correct_88 : decode cX9_correct 88 = .ok (.aload_n 0, 1) := by decide +kernel
theorem dX9_correct_89 : decode cX9_correct 89 = .ok (.getfield 41, 3) := by decide +kernel
theorem dX9_correct_92 : decode cX9_correct 92 = .ok (.iload_n 1, 1) := by decide +kernel
theorem dX9_correct_93 : decode cX9_correct 93 = .ok (.iaload, 1) := by decide +kernel
theorem dX9_correct_94 : decode cX9_correct 94 = .ok (.iconst 3, 1) := by decide +kernel
theorem dX9_correct_95 : decode cX9_correct 95 = .ok (.if_icmp .lt 13, 3) := by decide +kernel
theorem dX9_correct_98 : decode cX9_correct 98 = .ok (.iload 5, 2) := by decide +kernel
theorem dX9_correct_100 : decode cX9_correct 100 = .ok (.ifCond .ne 10, 3) := by decide +kernel
theorem dX9_correct_103 : decode cX9_correct 103 = .ok (.iload 6, 2) := by decide +kernel
theorem dX9_correct_105 : decode cX9_correct 105 = .ok (.ifCond .ne 5, 3) := by decide +kernel
theorem dX9_correct_108 : decode cX9_correct 108 = .ok (.iconst 0, 1) := by decide +kernel
theorem dX9_correct_109 : decode cX9_correct 109 = .ok (.ireturn, 1) := by decide +kernel
theorem dX9_correct_110 : decode cX9_correct 110 = .ok (.aload_n 0, 1) := by decide +kernel
theorem dX9_correct_111 : decode cX9_correct 111 = .ok (.getfield 31, 3) := by decide +kernel
theorem dX9_correct_114 : decode cX9_correct 114 = .ok (.iload_n 1, 1) := by decide +kernel
theorem dX9_correct_115 : decode cX9_correct 115 = .ok (.iaload, 1) := by decide +kernel
theorem dX9_correct_116 : decode cX9_correct 116 = .ok (.istore 7, 2) := by decide +kernel
theorem dX9_correct_118 : decode cX9_correct 118 = .ok (.iload 7, 2) := by decide +kernel
theorem dX9_correct_120 : decode cX9_correct 120 = .ok (.iload_n 2, 1) := by decide +kernel
theorem dX9_correct_121 : decode cX9_correct 121 = .ok (.iload_n 3, 1) := by decide +kernel
theorem dX9_correct_122 : decode cX9_correct 122 = .ok (.iadd, 1) := by decide +kernel
theorem dX9_correct_123 : decode cX9_correct 123 = .ok (.iload 4, 2) := by decide +kernel
theorem dX9_correct_125 : decode cX9_correct 125 = .ok (.iadd, 1) := by decide +kernel
theorem dX9_correct_126 : decode cX9_correct 126 = .ok (.iconst 3, 1) := by decide +kernel
theorem dX9_correct_127 : decode cX9_correct 127 = .ok (.idiv, 1) := by decide +kernel
theorem dX9_correct_128 : decode cX9_correct 128 = .ok (.iconst 2, 1) := by decide +kernel
theorem dX9_correct_129 : decode cX9_correct 129 = .ok (.idiv, 1) := by decide +kernel
theorem dX9_correct_130 : decode cX9_correct 130 = .ok (.iadd, 1) := by decide +kernel
theorem dX9_correct_131 : decode cX9_correct 131 = .ok (.istore 8, 2) := by decide +kernel
theorem dX9_correct_133 : decode cX9_correct 133 = .ok (.aload_n 0, 1) := by decide +kernel
theorem dX9_correct_134 : decode cX9_correct 134 = .ok (.getfield 31, 3) := by decide +kernel
theorem dX9_correct_137 : decode cX9_correct 137 = .ok (.iload_n 1, 1) := by decide +kernel
theorem dX9_correct_138 : decode cX9_correct 138 = .ok (.iload 8, 2) := by decide +kernel
theorem dX9_correct_140 : decode cX9_correct 140 = .ok (.sipush 200, 3) := by decide +kernel
theorem dX9_correct_143 : decode cX9_correct 143 = .ok (.if_icmp .le 9, 3) := by decide +kernel
theorem dX9_correct_146 : decode cX9_correct 146 = .ok (.sipush 200, 3) := by decide +kernel
theorem dX9_correct_149 : decode cX9_correct 149 = .ok (.goto 19, 3) := by decide +kernel
theorem dX9_correct_152 : decode cX9_correct 152 = .ok (.iload 8, 2) := by decide +kernel
theorem dX9_correct_154 : decode cX9_correct 154 = .ok (.sipush (-200), 3) := by decide +kernel
theorem dX9_correct_157 : decode cX9_correct 157 = .ok (.if_icmp .ge 9, 3) := by decide +kernel
theorem dX9_correct_160 : decode cX9_correct 160 = .ok (.sipush (-200), 3) := by decide +kernel
theorem dX9_correct_163 : decode cX9_correct 163 = .ok (.goto 5, 3) := by decide +kernel
theorem dX9_correct_166 : decode cX9_correct 166 = .ok (.iload 8, 2) := by decide +kernel
theorem dX9_correct_168 : decode cX9_correct 168 = .ok (.iastore, 1) := by decide +kernel
theorem dX9_correct_169 : decode cX9_correct 169 = .ok (.aload_n 0, 1) := by decide +kernel
theorem dX9_correct_170 : decode cX9_correct 170 = .ok (.getfield 41, 3) := by decide +kernel
theorem dX9_correct_173 : decode cX9_correct 173 = .ok (.iload_n 1, 1) := by decide +kernel
theorem dX9_correct_174 : decode cX9_correct 174 = .ok (.iconst 0, 1) := by decide +kernel
theorem dX9_correct_175 : decode cX9_correct 175 = .ok (.iastore, 1) := by decide +kernel
theorem dX9_correct_176 : decode cX9_correct 176 = .ok (.aload_n 0, 1) := by decide +kernel
theorem dX9_correct_177 : decode cX9_correct 177 = .ok (.getfield 31, 3) := by decide +kernel
theorem dX9_correct_180 : decode cX9_correct 180 = .ok (.iload_n 1, 1) := by decide +kernel
theorem dX9_correct_181 : decode cX9_correct 181 = .ok (.iaload, 1) := by decide +kernel
theorem dX9_correct_182 : decode cX9_correct 182 = .ok (.iload 7, 2) := by decide +kernel
theorem dX9_correct_184 : decode cX9_correct 184 = .ok (.isub, 1) := by decide +kernel
theorem dX9_correct_185 : decode cX9_correct 185 = .ok (.ireturn, 1) := by decide +kernel
theorem dX9_minute_0 : decode cX9_minute 0 = .ok (.aload_n 0, 1) := by decide +kernel
theorem dX9_minute_1 : decode cX9_minute 1 = .ok (.iconst 0, 1) := by decide +kernel
theorem dX9_minute_2 : decode cX9_minute 2 = .ok (.putfield 107, 3) := by decide +kernel
theorem dX9_minute_5 : decode cX9_minute 5 = .ok (.aload_n 0, 1) := by decide +kernel
theorem dX9_minute_6 : decode cX9_minute 6 = .ok (.getfield 158, 3) := by decide +kernel
theorem dX9_minute_9 : decode cX9_minute 9 = .ok (.ireturn, 1) := by decide +kernel
theorem dX9_warmth_0 : decode cX9_warmth 0 = .ok (.aload_n 0, 1) := by decide +kernel
theorem dX9_warmth_1 : decode cX9_warmth 1 = .ok (.iconst 0, 1) := by decide +kernel
theorem dX9_warmth_2 : decode cX9_warmth 2 = .ok (.putfield 107, 3) := by decide +kernel
theorem dX9_warmth_5 : decode cX9_warmth 5 = .ok (.aload_n 0, 1) := by decide +kernel
theorem dX9_warmth_6 : decode cX9_warmth 6 = .ok (.getfield 155, 3) := by decide +kernel
theorem dX9_warmth_9 : decode cX9_warmth 9 = .ok (.ireturn, 1) := by decide +kernel
theorem dX9_ofTool_0 : decode cX9_ofTool 0 = .ok (.aload_n 0, 1) := by decide +kernel
theorem dX9_ofTool_1 : decode cX9_ofTool 1 = .ok (.aload_n 0, 1) := by decide +kernel
theorem dX9_ofTool_2 : decode cX9_ofTool 2 = .ok (.iload_n 1, 1) := by decide +kernel
theorem dX9_ofTool_3 : decode cX9_ofTool 3 = .ok (.invokevirtual 141, 3) := by decide +kernel
theorem dX9_ofTool_6 : decode cX9_ofTool 6 = .ok (.iload_n 2, 1) := by decide +kernel
theorem dX9_ofTool_7 : decode cX9_ofTool 7 = .ok (.iconst 0, 1) := by decide +kernel
theorem dX9_ofTool_8 : decode cX9_ofTool 8 = .ok (.iconst 5, 1) := by decide +kernel
theorem dX9_ofTool_9 : decode cX9_ofTool 9 = .ok (.invokestatic 114, 3) := by decide +kernel
theorem dX9_ofTool_12 : decode cX9_ofTool 12 = .ok (.iconst 1, 1) := by decide +kernel
theorem dX9_ofTool_13 : decode cX9_ofTool 13 = .ok (.invokevirtual 127, 3) := by decide +kernel
theorem dX9_ofTool_16 : decode cX9_ofTool 16 = .ok (.ifCond .ne 5, 3) := by decide +kernel
theorem dX9_ofTool_19 : decode cX9_ofTool 19 = .ok (.iconst 0, 1) := by decide +kernel
theorem dX9_ofTool_20 : decode cX9_ofTool 20 = .ok (.ireturn, 1) := by decide +kernel
theorem dX9_ofTool_21 : decode cX9_ofTool 21 = .ok (.iload_n 2, 1) := by decide +kernel
theorem dX9_ofTool_22 : decode cX9_ofTool 22 = .ok (.tableswitch 77 0 4 #[34, 41, 48, 55, 62], 34) := by decide +kernel
theorem dX9_ofTool_56 : decode cX9_ofTool 56 = .ok (.aload_n 0, 1) := by decide +kernel
theorem dX9_ofTool_57 : decode cX9_ofTool 57 = .ok (.getfield 19, 3) := by decide +kernel
theorem dX9_ofTool_60 : decode cX9_ofTool 60 = .ok (.iload_n 1, 1) := by decide +kernel
theorem dX9_ofTool_61 : decode cX9_ofTool 61 = .ok (.iaload, 1) := by decide +kernel
theorem dX9_ofTool_62 : decode cX9_ofTool 62 = .ok (.ireturn, 1) := by decide +kernel
theorem dX9_ofTool_63 : decode cX9_ofTool 63 = .ok (.aload_n 0, 1) := by decide +kernel
theorem dX9_ofTool_64 : decode cX9_ofTool 64 = .ok (.getfield 22, 3) := by decide +kernel
theorem dX9_ofTool_67 : decode cX9_ofTool 67 = .ok (.iload_n 1, 1) := by decide +kernel
theorem dX9_ofTool_68 : decode cX9_ofTool 68 = .ok (.iaload, 1) := by decide +kernel
theorem dX9_ofTool_69 : decode cX9_ofTool 69 = .ok (.ireturn, 1) := by decide +kernel
theorem dX9_ofTool_70 : decode cX9_ofTool 70 = .ok (.aload_n 0, 1) := by decide +kernel
theorem dX9_ofTool_71 : decode cX9_ofTool 71 = .ok (.getfield 25, 3) := by decide +kernel
theorem dX9_ofTool_74 : decode cX9_ofTool 74 = .ok (.iload_n 1, 1) := by decide +kernel
theorem dX9_ofTool_75 : decode cX9_ofTool 75 = .ok (.iaload, 1) := by decide +kernel
theorem dX9_ofTool_76 : decode cX9_ofTool 76 = .ok (.ireturn, 1) := by decide +kernel
theorem dX9_ofTool_77 : decode cX9_ofTool 77 = .ok (.aload_n 0, 1) := by decide +kernel
theorem dX9_ofTool_78 : decode cX9_ofTool 78 = .ok (.getfield 31, 3) := by decide +kernel
theorem dX9_ofTool_81 : decode cX9_ofTool 81 = .ok (.iload_n 1, 1) := by decide +kernel
theorem dX9_ofTool_82 : decode cX9_ofTool 82 = .ok (.iaload, 1) := by decide +kernel
theorem dX9_ofTool_83 : decode cX9_ofTool 83 = .ok (.ireturn, 1) := by decide +kernel
theorem dX9_ofTool_84 : decode cX9_ofTool 84 = .ok (.aload_n 0, 1) := by decide +kernel
theorem dX9_ofTool_85 : decode cX9_ofTool 85 = .ok (.getfield 34, 3) := by decide +kernel
theorem dX9_ofTool_88 : decode cX9_ofTool 88 = .ok (.iload_n 1, 1) := by decide +kernel
theorem dX9_ofTool_89 : decode cX9_ofTool 89 = .ok (.baload, 1) := by decide +kernel
theorem dX9_ofTool_90 : decode cX9_ofTool 90 = .ok (.ifCond .eq 7, 3) := by decide +kernel
theorem dX9_ofTool_93 : decode cX9_ofTool 93 = .ok (.iconst 1, 1) := by decide +kernel
theorem dX9_ofTool_94 : decode cX9_ofTool 94 = .ok (.goto 4, 3) := by decide +kernel
theorem dX9_ofTool_97 : decode cX9_ofTool 97 = .ok (.iconst 0, 1) := by decide +kernel
theorem dX9_ofTool_98 : decode cX9_ofTool 98 = .ok (.ireturn, 1) := by decide +kernel
theorem dX9_ofTool_99 : decode cX9_ofTool 99 = .ok (.aload_n 0, 1) := by decide +kernel
theorem dX9_ofTool_100 : decode cX9_ofTool 100 = .ok (.getfield 41, 3) := by decide +kernel
theorem dX9_ofTool_103 : decode cX9_ofTool 103 = .ok (.iload_n 1, 1) := by decide +kernel
theorem dX9_ofTool_104 : decode cX9_ofTool 104 = .ok (.iaload, 1) := by decide +kernel
theorem dX9_ofTool_105 : decode cX9_ofTool 105 = .ok (.ireturn, 1) := by decide +kernel
theorem dX9_causeOf_0 : decode cX9_causeOf 0 = .ok (.iconst (-1), 1) := by decide +kernel
theorem dX9_causeOf_1 : decode cX9_causeOf 1 = .ok (.istore_n 2, 1) := by decide +kernel
theorem dX9_causeOf_2 : decode cX9_causeOf 2 = .ok (.iconst 0, 1) := by decide +kernel
theorem dX9_causeOf_3 : decode cX9_causeOf 3 = .ok (.istore_n 3, 1) := by decide +kernel
theorem dX9_causeOf_4 : decode cX9_causeOf 4 = .ok (.iconst 0, 1) := by decide +kernel
theorem dX9_causeOf_5 : decode cX9_causeOf 5 = .ok (.istore 4, 2) := by decide +kernel
theorem dX9_causeOf_7 : decode cX9_causeOf 7 = .ok (.iload 4, 2) := by decide +kernel
theorem dX9_causeOf_9 : decode cX9_causeOf 9 = .ok (.iconst 4, 1) := by decide +kernel
theorem dX9_causeOf_10 : decode cX9_causeOf 10 = .ok (.if_icmp .ge 55, 3) := by decide +kernel
theorem dX9_causeOf_13 : decode cX9_causeOf 13 = .ok (.aload_n 0, 1) := by decide +kernel
theorem dX9_causeOf_14 : decode cX9_causeOf 14 = .ok (.getfield 50, 3) := by decide +kernel
theorem dX9_causeOf_17 : decode cX9_causeOf 17 = .ok (.iload_n 1, 1) := by decide +kernel
theorem dX9_causeOf_18 : decode cX9_causeOf 18 = .ok (.iaload, 1) := by decide +kernel
theorem dX9_causeOf_19 : decode cX9_causeOf 19 = .ok (.iconst (-1), 1) := by decide +kernel
theorem dX9_causeOf_20 : decode cX9_causeOf 20 = .ok (.if_icmp .eq 45, 3) := by decide +kernel
theorem dX9_causeOf_23 : decode cX9_causeOf 23 = .ok (.aload_n 0, 1) := by decide +kernel
theorem dX9_causeOf_24 : decode cX9_causeOf 24 = .ok (.getfield 53, 3) := by decide +kernel
theorem dX9_causeOf_27 : decode cX9_causeOf 27 = .ok (.iconst 4, 1) := by decide +kernel
theorem dX9_causeOf_28 : decode cX9_causeOf 28 = .ok (.iload_n 1, 1) := by decide +kernel
theorem dX9_causeOf_29 : decode cX9_causeOf 29 = .ok (.imul, 1) := by decide +kernel
theorem dX9_causeOf_30 : decode cX9_causeOf 30 = .ok (.iload 4, 2) := by decide +kernel
theorem dX9_causeOf_32 : decode cX9_causeOf 32 = .ok (.iadd, 1) := by decide +kernel
theorem dX9_causeOf_33 : decode cX9_causeOf 33 = .ok (.iaload, 1) := by decide +kernel
theorem dX9_causeOf_34 : decode cX9_causeOf 34 = .ok (.invokestatic 204, 3) := by decide +kernel
theorem dX9_causeOf_37 : decode cX9_causeOf 37 = .ok (.iload_n 3, 1) := by decide +kernel
theorem dX9_causeOf_38 : decode cX9_causeOf 38 = .ok (.if_icmp .le 21, 3) := by decide +kernel
theorem dX9_causeOf_41 : decode cX9_causeOf 41 = .ok (.iload 4, 2) := by decide +kernel
theorem dX9_causeOf_43 : decode cX9_causeOf 43 = .ok (.istore_n 2, 1) := by decide +kernel
theorem dX9_causeOf_44 : decode cX9_causeOf 44 = .ok (.aload_n 0, 1) := by decide +kernel
theorem dX9_causeOf_45 : decode cX9_causeOf 45 = .ok (.getfield 53, 3) := by decide +kernel
theorem dX9_causeOf_48 : decode cX9_causeOf 48 = .ok (.iconst 4, 1) := by decide +kernel
theorem dX9_causeOf_49 : decode cX9_causeOf 49 = .ok (.iload_n 1, 1) := by decide +kernel
theorem dX9_causeOf_50 : decode cX9_causeOf 50 = .ok (.imul, 1) := by decide +kernel
theorem dX9_causeOf_51 : decode cX9_causeOf 51 = .ok (.iload 4, 2) := by decide +kernel
theorem dX9_causeOf_53 : decode cX9_causeOf 53 = .ok (.iadd, 1) := by decide +kernel
theorem dX9_causeOf_54 : decode cX9_causeOf 54 = .ok (.iaload, 1) := by decide +kernel
theorem dX9_causeOf_55 : decode cX9_causeOf 55 = .ok (.invokestatic 204, 3) := by decide +kernel
theorem dX9_causeOf_58 : decode cX9_causeOf 58 = .ok (.istore_n 3, 1) := by decide +kernel
theorem dX9_causeOf_59 : decode cX9_causeOf 59 = .ok (.iinc 4 1, 3) := by decide +kernel
theorem dX9_causeOf_62 : decode cX9_causeOf 62 = .ok (.goto (-55), 3) := by decide +kernel
theorem dX9_causeOf_65 : decode cX9_causeOf 65 = .ok (.iload_n 2, 1) := by decide +kernel
theorem dX9_causeOf_66 : decode cX9_causeOf 66 = .ok (.ireturn, 1) := by decide +kernel
theorem dX9_ofCell_0 : decode cX9_ofCell 0 = .ok (.aload_n 0, 1) := by decide +kernel
theorem dX9_ofCell_1 : decode cX9_ofCell 1 = .ok (.iload_n 1, 1) := by decide +kernel
theorem dX9_ofCell_2 : decode cX9_ofCell 2 = .ok (.invokevirtual 148, 3) := by decide +kernel
theorem dX9_ofCell_5 : decode cX9_ofCell 5 = .ok (.ifCond .eq 15, 3) := by decide +kernel
theorem dX9_ofCell_8 : decode cX9_ofCell 8 = .ok (.iload_n 2, 1) := by decide +kernel
theorem dX9_ofCell_9 : decode cX9_ofCell 9 = .ok (.iload_n 3, 1) := by decide +kernel
theorem dX9_ofCell_10 : decode cX9_ofCell 10 = .ok (.invokestatic 151, 3) := by decide +kernel
theorem dX9_ofCell_13 : decode cX9_ofCell 13 = .ok (.ifCond .eq 7, 3) := by decide +kernel
theorem dX9_ofCell_16 : decode cX9_ofCell 16 = .ok (.iconst 1, 1) := by decide +kernel
theorem dX9_ofCell_17 : decode cX9_ofCell 17 = .ok (.goto 4, 3) := by decide +kernel
theorem dX9_ofCell_20 : decode cX9_ofCell 20 = .ok (.iconst 0, 1) := by decide +kernel
theorem dX9_ofCell_21 : decode cX9_ofCell 21 = .ok (.istore 5, 2) := by decide +kernel
theorem dX9_ofCell_23 : decode cX9_ofCell 23 = .ok (.aload_n 0, 1) := by decide +kernel
theorem dX9_ofCell_24 : decode cX9_ofCell 24 = .ok (.iload 5, 2) := by decide +kernel
theorem dX9_ofCell_26 : decode cX9_ofCell 26 = .ok (.iload 4, 2) := by decide +kernel
theorem dX9_ofCell_28 : decode cX9_ofCell 28 = .ok (.iconst 0, 1) := by decide +kernel
theorem dX9_ofCell_29 : decode cX9_ofCell 29 = .ok (.iconst 4, 1) := by decide +kernel
theorem dX9_ofCell_30 : decode cX9_ofCell 30 = .ok (.invokestatic 114, 3) := by decide +kernel
theorem dX9_ofCell_33 : decode cX9_ofCell 33 = .ok (.iconst 1, 1) := by decide +kernel
theorem dX9_ofCell_34 : decode cX9_ofCell 34 = .ok (.invokevirtual 127, 3) := by decide +kernel
theorem dX9_ofCell_37 : decode cX9_ofCell 37 = .ok (.ifCond .ne 5, 3) := by decide +kernel
theorem dX9_ofCell_40 : decode cX9_ofCell 40 = .ok (.iconst 0, 1) := by decide +kernel
theorem dX9_ofCell_41 : decode cX9_ofCell 41 = .ok (.ireturn, 1) := by decide +kernel
theorem dX9_ofCell_42 : decode cX9_ofCell 42 = .ok (.sipush 144, 3) := by decide +kernel
theorem dX9_ofCell_45 : decode cX9_ofCell 45 = .ok (.iload_n 1, 1) := by decide +kernel
theorem dX9_ofCell_46 : decode cX9_ofCell 46 = .ok (.imul, 1) := by decide +kernel
theorem dX9_ofCell_47 : decode cX9_ofCell 47 = .ok (.bipush 12, 2) := by decide +kernel
theorem dX9_ofCell_49 : decode cX9_ofCell 49 = .ok (.iload_n 3, 1) := by decide +kernel
theorem dX9_ofCell_50 : decode cX9_ofCell 50 = .ok (.imul, 1) := by decide +kernel
theorem dX9_ofCell_51 : decode cX9_ofCell 51 = .ok (.iadd, 1) := by decide +kernel
theorem dX9_ofCell_52 : decode cX9_ofCell 52 = .ok (.iload_n 2, 1) := by decide +kernel
theorem dX9_ofCell_53 : decode cX9_ofCell 53 = .ok (.iadd, 1) := by decide +kernel
theorem dX9_ofCell_54 : decode cX9_ofCell 54 = .ok (.istore 6, 2) := by decide +kernel
theorem dX9_ofCell_56 : decode cX9_ofCell 56 = .ok (.iload 4, 2) := by decide +kernel
theorem dX9_ofCell_58 : decode cX9_ofCell 58 = .ok (.tableswitch 60 0 3 #[30, 38, 45, 53], 30) := by decide +kernel
theorem dX9_ofCell_88 : decode cX9_ofCell 88 = .ok (.aload_n 0, 1) := by decide +kernel
theorem dX9_ofCell_89 : decode cX9_ofCell 89 = .ok (.getfield 44, 3) := by decide +kernel
theorem dX9_ofCell_92 : decode cX9_ofCell 92 = .ok (.iload 6, 2) := by decide +kernel
theorem dX9_ofCell_94 : decode cX9_ofCell 94 = .ok (.iaload, 1) := by decide +kernel
theorem dX9_ofCell_95 : decode cX9_ofCell 95 = .ok (.ireturn, 1) := by decide +kernel
theorem dX9_ofCell_96 : decode cX9_ofCell 96 = .ok (.aload_n 0, 1) := by decide +kernel
theorem dX9_ofCell_97 : decode cX9_ofCell 97 = .ok (.iload 6, 2) := by decide +kernel
theorem dX9_ofCell_99 : decode cX9_ofCell 99 = .ok (.invokevirtual 211, 3) := by decide +kernel
theorem dX9_ofCell_102 : decode cX9_ofCell 102 = .ok (.ireturn, 1) := by decide +kernel
theorem dX9_ofCell_103 : decode cX9_ofCell 103 = .ok (.aload_n 0, 1) := by decide +kernel
theorem dX9_ofCell_104 : decode cX9_ofCell 104 = .ok (.getfield 50, 3) := by decide +kernel
theorem dX9_ofCell_107 : decode cX9_ofCell 107 = .ok (.iload 6, 2) := by decide +kernel
theorem dX9_ofCell_109 : decode cX9_ofCell 109 = .ok (.iaload, 1) := by decide +kernel
theorem dX9_ofCell_110 : decode cX9_ofCell 110 = .ok (.ireturn, 1) := by decide +kernel
theorem dX9_ofCell_111 : decode cX9_ofCell 111 = .ok (.aload_n 0, 1) := by decide +kernel
theorem dX9_ofCell_112 : decode cX9_ofCell 112 = .ok (.iload 6, 2) := by decide +kernel
theorem dX9_ofCell_114 : decode cX9_ofCell 114 = .ok (.invokevirtual 221, 3) := by decide +kernel
theorem dX9_ofCell_117 : decode cX9_ofCell 117 = .ok (.ireturn, 1) := by decide +kernel
theorem dX9_ofCell_118 : decode cX9_ofCell 118 = .ok (.aload_n 0, 1) := by decide +kernel
theorem dX9_ofCell_119 : decode cX9_ofCell 119 = .ok (.getfield 47, 3) := by decide +kernel
theorem dX9_ofCell_122 : decode cX9_ofCell 122 = .ok (.iload 6, 2) := by decide +kernel
theorem dX9_ofCell_124 : decode cX9_ofCell 124 = .ok (.iaload, 1) := by decide +kernel
theorem dX9_ofCell_125 : decode cX9_ofCell 125 = .ok (.ireturn, 1) := by decide +kernel
theorem dX9_ofPallet_0 : decode cX9_ofPallet 0 = .ok (.aload_n 0, 1) := by decide +kernel
theorem dX9_ofPallet_1 : decode cX9_ofPallet 1 = .ok (.aload_n 0, 1) := by decide +kernel
theorem dX9_ofPallet_2 : decode cX9_ofPallet 2 = .ok (.iload_n 1, 1) := by decide +kernel
theorem dX9_ofPallet_3 : decode cX9_ofPallet 3 = .ok (.invokevirtual 148, 3) := by decide +kernel
theorem dX9_ofPallet_6 : decode cX9_ofPallet 6 = .ok (.iload_n 2, 1) := by decide +kernel
theorem dX9_ofPallet_7 : decode cX9_ofPallet 7 = .ok (.iconst 0, 1) := by decide +kernel
theorem dX9_ofPallet_8 : decode cX9_ofPallet 8 = .ok (.iconst 3, 1) := by decide +kernel
theorem dX9_ofPallet_9 : decode cX9_ofPallet 9 = .ok (.invokestatic 114, 3) := by decide +kernel
theorem dX9_ofPallet_12 : decode cX9_ofPallet 12 = .ok (.iconst 1, 1) := by decide +kernel
theorem dX9_ofPallet_13 : decode cX9_ofPallet 13 = .ok (.invokevirtual 127, 3) := by decide +kernel
theorem dX9_ofPallet_16 : decode cX9_ofPallet 16 = .ok (.ifCond .ne 5, 3) := by decide +kernel
theorem dX9_ofPallet_19 : decode cX9_ofPallet 19 = .ok (.iconst 0, 1) := by decide +kernel
theorem dX9_ofPallet_20 : decode cX9_ofPallet 20 = .ok (.ireturn, 1) := by decide +kernel
theorem dX9_ofPallet_21 : decode cX9_ofPallet 21 = .ok (.iconst (-1), 1) := by decide +kernel
theorem dX9_ofPallet_22 : decode cX9_ofPallet 22 = .ok (.istore_n 3, 1) := by decide +kernel
theorem dX9_ofPallet_23 : decode cX9_ofPallet 23 = .ok (.iconst 0, 1) := by decide +kernel
theorem dX9_ofPallet_24 : decode cX9_ofPallet 24 = .ok (.istore 4, 2) := by decide +kernel
theorem dX9_ofPallet_26 : decode cX9_ofPallet 26 = .ok (.iload 4, 2) := by decide +kernel
theorem dX9_ofPallet_28 : decode cX9_ofPallet 28 = .ok (.aload_n 0, 1) := by decide +kernel
theorem dX9_ofPallet_29 : decode cX9_ofPallet 29 = .ok (.getfield 138, 3) := by decide +kernel
theorem dX9_ofPallet_32 : decode cX9_ofPallet 32 = .ok (.if_icmp .ge 27, 3) := by decide +kernel
theorem dX9_ofPallet_35 : decode cX9_ofPallet 35 = .ok (.aload_n 0, 1) := by decide +kernel
theorem dX9_ofPallet_36 : decode cX9_ofPallet 36 = .ok (.getfield 71, 3) := by decide +kernel
theorem dX9_ofPallet_39 : decode cX9_ofPallet 39 = .ok (.iload 4, 2) := by decide +kernel
theorem dX9_ofPallet_41 : decode cX9_ofPallet 41 = .ok (.iaload, 1) := by decide +kernel
theorem dX9_ofPallet_42 : decode cX9_ofPallet 42 = .ok (.iload_n 1, 1) := by decide +kernel
theorem dX9_ofPallet_43 : decode cX9_ofPallet 43 = .ok (.if_icmp .ne 8, 3) := by decide +kernel
theorem dX9_ofPallet_46 : decode cX9_ofPallet 46 = .ok (.iload 4, 2) := by decide +kernel
theorem dX9_ofPallet_48 : decode cX9_ofPallet 48 = .ok (.goto 4, 3) := by decide +kernel
theorem dX9_ofPallet_51 : decode cX9_ofPallet 51 = .ok (.iload_n 3, 1) := by decide +kernel
theorem dX9_ofPallet_52 : decode cX9_ofPallet 52 = .ok (.istore_n 3, 1) := by decide +kernel
theorem dX9_ofPallet_53 : decode cX9_ofPallet 53 = .ok (.iinc 4 1, 3) := by decide +kernel
theorem dX9_ofPallet_56 : decode cX9_ofPallet 56 = .ok (.goto (-30), 3) := by decide +kernel
theorem dX9_ofPallet_59 : decode cX9_ofPallet 59 = .ok (.iload_n 2, 1) := by decide +kernel
theorem dX9_ofPallet_60 : decode cX9_ofPallet 60 = .ok (.ifCond .ne 12, 3) := by decide +kernel
theorem dX9_ofPallet_63 : decode cX9_ofPallet 63 = .ok (.aload_n 0, 1) := by decide +kernel
theorem dX9_ofPallet_64 : decode cX9_ofPallet 64 = .ok (.getfield 59, 3) := by decide +kernel
theorem dX9_ofPallet_67 : decode cX9_ofPallet 67 = .ok (.iload_n 1, 1) := by decide +kernel
theorem dX9_ofPallet_68 : decode cX9_ofPallet 68 = .ok (.iaload, 1) := by decide +kernel
theorem dX9_ofPallet_69 : decode cX9_ofPallet 69 = .ok (.goto 32, 3) := by decide +kernel
theorem dX9_ofPallet_72 : decode cX9_ofPallet 72 = .ok (.iload_n 2, 1) := by decide +kernel
theorem dX9_ofPallet_73 : decode cX9_ofPallet 73 = .ok (.iconst 1, 1) := by decide +kernel
theorem dX9_ofPallet_74 : decode cX9_ofPallet 74 = .ok (.if_icmp .ne 12, 3) := by decide +kernel
theorem dX9_ofPallet_77 : decode cX9_ofPallet 77 = .ok (.aload_n 0, 1) := by decide +kernel
theorem dX9_ofPallet_78 : decode cX9_ofPallet 78 = .ok (.getfield 65, 3) := by decide +kernel
theorem dX9_ofPallet_81 : decode cX9_ofPallet 81 = .ok (.iload_n 1, 1) := by decide +kernel
theorem dX9_ofPallet_82 : decode cX9_ofPallet 82 = .ok (.iaload, 1) := by decide +kernel
theorem dX9_ofPallet_83 : decode cX9_ofPallet 83 = .ok (.goto 18, 3) := by decide +kernel
theorem dX9_ofPallet_86 : decode cX9_ofPallet 86 = .ok (.iload_n 2, 1) := by decide +kernel
theorem dX9_ofPallet_87 : decode cX9_ofPallet 87 = .ok (.iconst 2, 1) := by decide +kernel
theorem dX9_ofPallet_88 : decode cX9_ofPallet 88 = .ok (.if_icmp .ne 7, 3) := by decide +kernel
theorem dX9_ofPallet_91 : decode cX9_ofPallet 91 = .ok (.iload_n 3, 1) := by decide +kernel
theorem dX9_ofPallet_92 : decode cX9_ofPallet 92 = .ok (.goto 9, 3) := by decide +kernel
theorem dX9_ofPallet_95 : decode cX9_ofPallet 95 = .ok (.aload_n 0, 1) := by decide +kernel
theorem dX9_ofPallet_96 : decode cX9_ofPallet 96 = .ok (.getfield 68, 3) := by decide +kernel
theorem dX9_ofPallet_99 : decode cX9_ofPallet 99 = .ok (.iload_n 1, 1) := by decide +kernel
theorem dX9_ofPallet_100 : decode cX9_ofPallet 100 = .ok (.iaload, 1) := by decide +kernel
theorem dX9_ofPallet_101 : decode cX9_ofPallet 101 = .ok (.ireturn, 1) := by decide +kernel
theorem dX9_ofPaper_0 : decode cX9_ofPaper 0 = .ok (.aload_n 0, 1) := by decide +kernel
theorem dX9_ofPaper_1 : decode cX9_ofPaper 1 = .ok (.iload_n 1, 1) := by decide +kernel
theorem dX9_ofPaper_2 : decode cX9_ofPaper 2 = .ok (.iconst 0, 1) := by decide +kernel
theorem dX9_ofPaper_3 : decode cX9_ofPaper 3 = .ok (.aload_n 0, 1) := by decide +kernel
theorem dX9_ofPaper_4 : decode cX9_ofPaper 4 = .ok (.getfield 208, 3) := by decide +kernel
theorem dX9_ofPaper_7 : decode cX9_ofPaper 7 = .ok (.iconst 1, 1) := by decide +kernel
theorem dX9_ofPaper_8 : decode cX9_ofPaper 8 = .ok (.isub, 1) := by decide +kernel
theorem dX9_ofPaper_9 : decode cX9_ofPaper 9 = .ok (.invokestatic 114, 3) := by decide +kernel
theorem dX9_ofPaper_12 : decode cX9_ofPaper 12 = .ok (.iload_n 2, 1) := by decide +kernel
theorem dX9_ofPaper_13 : decode cX9_ofPaper 13 = .ok (.iconst 0, 1) := by decide +kernel
theorem dX9_ofPaper_14 : decode cX9_ofPaper 14 = .ok (.bipush 10, 2) := by decide +kernel
theorem dX9_ofPaper_16 : decode cX9_ofPaper 16 = .ok (.invokestatic 114, 3) := by decide +kernel
theorem dX9_ofPaper_19 : decode cX9_ofPaper 19 = .ok (.iconst 1, 1) := by decide +kernel
theorem dX9_ofPaper_20 : decode cX9_ofPaper 20 = .ok (.invokevirtual 127, 3) := by decide +kernel
theorem dX9_ofPaper_23 : decode cX9_ofPaper 23 = .ok (.ifCond .eq 17, 3) := by decide +kernel
theorem dX9_ofPaper_26 : decode cX9_ofPaper 26 = .ok (.aload_n 0, 1) := by decide +kernel
theorem dX9_ofPaper_27 : decode cX9_ofPaper 27 = .ok (.getfield 89, 3) := by decide +kernel
theorem dX9_ofPaper_30 : decode cX9_ofPaper 30 = .ok (.bipush 18, 2) := by decide +kernel
theorem dX9_ofPaper_32 : decode cX9_ofPaper 32 = .ok (.iload_n 1, 1) := by decide +kernel
theorem dX9_ofPaper_33 : decode cX9_ofPaper 33 = .ok (.imul, 1) := by decide +kernel
theorem dX9_ofPaper_34 : decode cX9_ofPaper 34 = .ok (.iload_n 2, 1) := by decide +kernel
theorem dX9_ofPaper_35 : decode cX9_ofPaper 35 = .ok (.iadd, 1) := by decide +kernel
theorem dX9_ofPaper_36 : decode cX9_ofPaper 36 = .ok (.iaload, 1) := by decide +kernel
theorem dX9_ofPaper_37 : decode cX9_ofPaper 37 = .ok (.goto 4, 3) := by decide +kernel
theorem dX9_ofPaper_40 : decode cX9_ofPaper 40 = .ok (.iconst 0, 1) := by decide +kernel
theorem dX9_ofPaper_41 : decode cX9_ofPaper 41 = .ok (.ireturn, 1) := by decide +kernel
theorem dX9_judgeAnew_0 : decode cX9_judgeAnew 0 = .ok (.aload_n 0, 1) := by decide +kernel
theorem dX9_judgeAnew_1 : decode cX9_judgeAnew 1 = .ok (.iload_n 1, 1) := by decide +kernel
theorem dX9_judgeAnew_2 : decode cX9_judgeAnew 2 = .ok (.iconst 0, 1) := by decide +kernel
theorem dX9_judgeAnew_3 : decode cX9_judgeAnew 3 = .ok (.aload_n 0, 1) := by decide +kernel
theorem dX9_judgeAnew_4 : decode cX9_judgeAnew 4 = .ok (.getfield 208, 3) := by decide +kernel
theorem dX9_judgeAnew_7 : decode cX9_judgeAnew 7 = .ok (.iconst 1, 1) := by decide +kernel
theorem dX9_judgeAnew_8 : decode cX9_judgeAnew 8 = .ok (.isub, 1) := by decide +kernel
theorem dX9_judgeAnew_9 : decode cX9_judgeAnew 9 = .ok (.invokestatic 114, 3) := by decide +kernel
theorem dX9_judgeAnew_12 : decode cX9_judgeAnew 12 = .ok (.iconst 1, 1) := by decide +kernel
theorem dX9_judgeAnew_13 : decode cX9_judgeAnew 13 = .ok (.iconst 1, 1) := by decide +kernel
theorem dX9_judgeAnew_14 : decode cX9_judgeAnew 14 = .ok (.invokevirtual 127, 3) := by decide +kernel
theorem dX9_judgeAnew_17 : decode cX9_judgeAnew 17 = .ok (.ifCond .eq 11, 3) := by decide +kernel
theorem dX9_judgeAnew_20 : decode cX9_judgeAnew 20 = .ok (.aload_n 0, 1) := by decide +kernel
theorem dX9_judgeAnew_21 : decode cX9_judgeAnew 21 = .ok (.iload_n 1, 1) := by decide +kernel
theorem dX9_judgeAnew_22 : decode cX9_judgeAnew 22 = .ok (.invokevirtual 218, 3) := by decide +kernel
theorem dX9_judgeAnew_25 : decode cX9_judgeAnew 25 = .ok (.goto 4, 3) := by decide +kernel
theorem dX9_judgeAnew_28 : decode cX9_judgeAnew 28 = .ok (.iconst 0, 1) := by decide +kernel
theorem dX9_judgeAnew_29 : decode cX9_judgeAnew 29 = .ok (.ireturn, 1) := by decide +kernel
