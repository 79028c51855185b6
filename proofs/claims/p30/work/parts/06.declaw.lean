theorem dL_from_0 : decode cL_from 0 = .ok (.aload_n 0, 1) := by decide +kernel
theorem dL_from_1 : decode cL_from 1 = .ok (.arraylength, 1) := by decide +kernel
theorem dL_from_2 : decode cL_from 2 = .ok (.ifCond .ne 14, 3) := by decide +kernel
theorem dL_from_5 : decode cL_from 5 = .ok (.sipush 739, 3) := by decide +kernel
theorem dL_from_8 : decode cL_from 8 = .ok (.iload_n 1, 1) := by decide +kernel
theorem dL_from_9 : decode cL_from 9 = .ok (.imul, 1) := by decide +kernel
theorem dL_from_10 : decode cL_from 10 = .ok (.bipush 91, 2) := by decide +kernel
theorem dL_from_12 : decode cL_from 12 = .ok (.iadd, 1) := by decide +kernel
theorem dL_from_13 : decode cL_from 13 = .ok (.goto 14, 3) := by decide +kernel
theorem dL_from_16 : decode cL_from 16 = .ok (.aload_n 0, 1) := by decide +kernel
theorem dL_from_17 : decode cL_from 17 = .ok (.iload_n 1, 1) := by decide +kernel
theorem dL_from_18 : decode cL_from 18 = .ok (.aload_n 0, 1) := by decide +kernel
theorem dL_from_19 : decode cL_from 19 = .ok (.arraylength, 1) := by decide +kernel
theorem dL_from_20 : decode cL_from 20 = .ok (.irem, 1) := by decide +kernel
theorem dL_from_21 : decode cL_from 21 = .ok (.iaload, 1) := by decide +kernel
theorem dL_from_22 : decode cL_from 22 = .ok (.ldc 7, 2) := by decide +kernel
theorem dL_from_24 : decode cL_from 24 = .ok (.iload_n 1, 1) := by decide +kernel
theorem dL_from_25 : decode cL_from 25 = .ok (.imul, 1) := by decide +kernel
theorem dL_from_26 : decode cL_from 26 = .ok (.ixor, 1) := by decide +kernel
theorem dL_from_27 : decode cL_from 27 = .ok (.istore_n 3, 1) := by decide +kernel
theorem dL_from_28 : decode cL_from 28 = .ok (.iload_n 3, 1) := by decide +kernel
theorem dL_from_29 : decode cL_from 29 = .ok (.ldc 8, 2) := by decide +kernel
theorem dL_from_31 : decode cL_from 31 = .ok (.iand, 1) := by decide +kernel
theorem dL_from_32 : decode cL_from 32 = .ok (.iload_n 2, 1) := by decide +kernel
theorem dL_from_33 : decode cL_from 33 = .ok (.irem, 1) := by decide +kernel
theorem dL_from_34 : decode cL_from 34 = .ok (.ireturn, 1) := by decide +kernel
theorem dL_toolFor_0 : decode cL_toolFor 0 = .ok (.iconst 0, 1) := by decide +kernel
theorem dL_toolFor_1 : decode cL_toolFor 1 = .ok (.istore_n 2, 1) := by decide +kernel
theorem dL_toolFor_2 : decode cL_toolFor 2 = .ok (.iload_n 2, 1) := by decide +kernel
theorem dL_toolFor_3 : decode cL_toolFor 3 = .ok (.iconst 4, 1) := by decide +kernel
theorem dL_toolFor_4 : decode cL_toolFor 4 = .ok (.if_icmp .ge 52, 3) := by decide +kernel
theorem dL_toolFor_7 : decode cL_toolFor 7 = .ok (.aload_n 0, 1) := by decide +kernel
theorem dL_toolFor_8 : decode cL_toolFor 8 = .ok (.bipush 9, 2) := by decide +kernel
theorem dL_toolFor_10 : decode cL_toolFor 10 = .ok (.iload_n 2, 1) := by decide +kernel
theorem dL_toolFor_11 : decode cL_toolFor 11 = .ok (.imul, 1) := by decide +kernel
theorem dL_toolFor_12 : decode cL_toolFor 12 = .ok (.iaload, 1) := by decide +kernel
theorem dL_toolFor_13 : decode cL_toolFor 13 = .ok (.iload_n 1, 1) := by decide +kernel
theorem dL_toolFor_14 : decode cL_toolFor 14 = .ok (.if_icmp .ne 36, 3) := by decide +kernel
theorem dL_toolFor_17 : decode cL_toolFor 17 = .ok (.aload_n 0, 1) := by decide +kernel
theorem dL_toolFor_18 : decode cL_toolFor 18 = .ok (.bipush 9, 2) := by decide +kernel
theorem dL_toolFor_20 : decode cL_toolFor 20 = .ok (.iload_n 2, 1) := by decide +kernel
theorem dL_toolFor_21 : decode cL_toolFor 21 = .ok (.imul, 1) := by decide +kernel
theorem dL_toolFor_22 : decode cL_toolFor 22 = .ok (.iconst 4, 1) := by decide +kernel
theorem dL_toolFor_23 : decode cL_toolFor 23 = .ok (.iadd, 1) := by decide +kernel
theorem dL_toolFor_24 : decode cL_toolFor 24 = .ok (.iaload, 1) := by decide +kernel
theorem dL_toolFor_25 : decode cL_toolFor 25 = .ok (.iconst 1, 1) := by decide +kernel
theorem dL_toolFor_26 : decode cL_toolFor 26 = .ok (.if_icmp .ne 24, 3) := by decide +kernel
theorem dL_toolFor_29 : decode cL_toolFor 29 = .ok (.aload_n 0, 1) := by decide +kernel
theorem dL_toolFor_30 : decode cL_toolFor 30 = .ok (.bipush 9, 2) := by decide +kernel
theorem dL_toolFor_32 : decode cL_toolFor 32 = .ok (.iload_n 2, 1) := by decide +kernel
theorem dL_toolFor_33 : decode cL_toolFor 33 = .ok (.imul, 1) := by decide +kernel
theorem dL_toolFor_34 : decode cL_toolFor 34 = .ok (.iconst 1, 1) := by decide +kernel
theorem dL_toolFor_35 : decode cL_toolFor 35 = .ok (.iadd, 1) := by decide +kernel
theorem dL_toolFor_36 : decode cL_toolFor 36 = .ok (.iaload, 1) := by decide +kernel
theorem dL_toolFor_37 : decode cL_toolFor 37 = .ok (.aload_n 0, 1) := by decide +kernel
theorem dL_toolFor_38 : decode cL_toolFor 38 = .ok (.bipush 9, 2) := by decide +kernel
theorem dL_toolFor_40 : decode cL_toolFor 40 = .ok (.iload_n 2, 1) := by decide +kernel
theorem dL_toolFor_41 : decode cL_toolFor 41 = .ok (.imul, 1) := by decide +kernel
theorem dL_toolFor_42 : decode cL_toolFor 42 = .ok (.iconst 2, 1) := by decide +kernel
theorem dL_toolFor_43 : decode cL_toolFor 43 = .ok (.iadd, 1) := by decide +kernel
theorem dL_toolFor_44 : decode cL_toolFor 44 = .ok (.iaload, 1) := by decide +kernel
theorem dL_toolFor_45 : decode cL_toolFor 45 = .ok (.if_icmp .le 5, 3) := by decide +kernel
theorem dL_toolFor_48 : decode cL_toolFor 48 = .ok (.iload_n 2, 1) := by decide +kernel
theorem dL_toolFor_49 : decode cL_toolFor 49 = .ok (.ireturn, 1) := by decide +kernel
theorem dL_toolFor_50 : decode cL_toolFor 50 = .ok (.iinc 2 1, 3) := by decide +kernel
theorem dL_toolFor_53 : decode cL_toolFor 53 = .ok (.goto (-51), 3) := by decide +kernel
theorem dL_toolFor_56 : decode cL_toolFor 56 = .ok (.iconst (-1), 1) := by decide +kernel
theorem dL_toolFor_57 : decode cL_toolFor 57 = .ok (.ireturn, 1) := by decide +kernel
theorem dL_step_0 : decode cL_step 0 = .ok (.bipush 12, 2) := by decide +kernel
theorem dL_step_2 : decode cL_step 2 = .ok (.aload_n 3, 1) := by decide +kernel
theorem dL_step_3 : decode cL_step 3 = .ok (.iconst 1, 1) := by decide +kernel
theorem dL_step_4 : decode cL_step 4 = .ok (.iaload, 1) := by decide +kernel
theorem dL_step_5 : decode cL_step 5 = .ok (.imul, 1) := by decide +kernel
theorem dL_step_6 : decode cL_step 6 = .ok (.aload_n 3, 1) := by decide +kernel
theorem dL_step_7 : decode cL_step 7 = .ok (.iconst 0, 1) := by decide +kernel
theorem dL_step_8 : decode cL_step 8 = .ok (.iaload, 1) := by decide +kernel
theorem dL_step_9 : decode cL_step 9 = .ok (.iadd, 1) := by decide +kernel
theorem dL_step_10 : decode cL_step 10 = .ok (.istore 6, 2) := by decide +kernel
theorem dL_step_12 : decode cL_step 12 = .ok (.aload_n 0, 1) := by decide +kernel
theorem dL_step_13 : decode cL_step 13 = .ok (.iload 6, 2) := by decide +kernel
theorem dL_step_15 : decode cL_step 15 = .ok (.laload, 1) := by decide +kernel
theorem dL_step_16 : decode cL_step 16 = .ok (.ldc2_w 9, 3) := by decide +kernel
theorem dL_step_19 : decode cL_step 19 = .ok (.land, 1) := by decide +kernel
theorem dL_step_20 : decode cL_step 20 = .ok (.l2i, 1) := by decide +kernel
theorem dL_step_21 : decode cL_step 21 = .ok (.istore 7, 2) := by decide +kernel
theorem dL_step_23 : decode cL_step 23 = .ok (.aload_n 3, 1) := by decide +kernel
theorem dL_step_24 : decode cL_step 24 = .ok (.bipush 6, 2) := by decide +kernel
theorem dL_step_26 : decode cL_step 26 = .ok (.iaload, 1) := by decide +kernel
theorem dL_step_27 : decode cL_step 27 = .ok (.iload 4, 2) := by decide +kernel
theorem dL_step_29 : decode cL_step 29 = .ok (.if_icmp .lt 7, 3) := by decide +kernel
theorem dL_step_32 : decode cL_step 32 = .ok (.iconst 1, 1) := by decide +kernel
theorem dL_step_33 : decode cL_step 33 = .ok (.goto 4, 3) := by decide +kernel
theorem dL_step_36 : decode cL_step 36 = .ok (.iconst 0, 1) := by decide +kernel
theorem dL_step_37 : decode cL_step 37 = .ok (.istore 8, 2) := by decide +kernel
theorem dL_step_39 : decode cL_step 39 = .ok (.iload 8, 2) := by decide +kernel
theorem dL_step_41 : decode cL_step 41 = .ok (.ifCond .eq 43, 3) := by decide +kernel
theorem dL_step_44 : decode cL_step 44 = .ok (.aload_n 3, 1) := by decide +kernel
theorem dL_step_45 : decode cL_step 45 = .ok (.iconst 2, 1) := by decide +kernel
theorem dL_step_46 : decode cL_step 46 = .ok (.iaload, 1) := by decide +kernel
theorem dL_step_47 : decode cL_step 47 = .ok (.aload_n 0, 1) := by decide +kernel
theorem dL_step_48 : decode cL_step 48 = .ok (.iload 6, 2) := by decide +kernel
theorem dL_step_50 : decode cL_step 50 = .ok (.laload, 1) := by decide +kernel
theorem dL_step_51 : decode cL_step 51 = .ok (.bipush 44, 2) := by decide +kernel
theorem dL_step_53 : decode cL_step 53 = .ok (.lshr, 1) := by decide +kernel
theorem dL_step_54 : decode cL_step 54 = .ok (.ldc2_w 9, 3) := by decide +kernel
theorem dL_step_57 : decode cL_step 57 = .ok (.land, 1) := by decide +kernel
theorem dL_step_58 : decode cL_step 58 = .ok (.l2i, 1) := by decide +kernel
theorem dL_step_59 : decode cL_step 59 = .ok (.if_icmp .lt 23, 3) := by decide +kernel
theorem dL_step_62 : decode cL_step 62 = .ok (.aload_n 3, 1) := by decide +kernel
theorem dL_step_63 : decode cL_step 63 = .ok (.iconst 2, 1) := by decide +kernel
theorem dL_step_64 : decode cL_step 64 = .ok (.iaload, 1) := by decide +kernel
theorem dL_step_65 : decode cL_step 65 = .ok (.iload 7, 2) := by decide +kernel
theorem dL_step_67 : decode cL_step 67 = .ok (.if_icmp .ge 17, 3) := by decide +kernel
theorem dL_step_70 : decode cL_step 70 = .ok (.aload_n 3, 1) := by decide +kernel
theorem dL_step_71 : decode cL_step 71 = .ok (.iconst 3, 1) := by decide +kernel
theorem dL_step_72 : decode cL_step 72 = .ok (.iaload, 1) := by decide +kernel
theorem dL_step_73 : decode cL_step 73 = .ok (.ifCond .eq 9, 3) := by decide +kernel
theorem dL_step_76 : decode cL_step 76 = .ok (.aload_n 3, 1) := by decide +kernel
theorem dL_step_77 : decode cL_step 77 = .ok (.iconst 5, 1) := by decide +kernel
theorem dL_step_78 : decode cL_step 78 = .ok (.iaload, 1) := by decide +kernel
theorem dL_step_79 : decode cL_step 79 = .ok (.ifCond .ge 5, 3) := by decide +kernel
theorem dL_step_82 : decode cL_step 82 = .ok (.iconst 3, 1) := by decide +kernel
theorem dL_step_83 : decode cL_step 83 = .ok (.ireturn, 1) := by decide +kernel
theorem dL_step_84 : decode cL_step 84 = .ok (.iload 8, 2) := by decide +kernel
theorem dL_step_86 : decode cL_step 86 = .ok (.ifCond .eq 210, 3) := by decide +kernel
theorem dL_step_89 : decode cL_step 89 = .ok (.aload_n 3, 1) := by decide +kernel
theorem dL_step_90 : decode cL_step 90 = .ok (.iconst 2, 1) := by decide +kernel
theorem dL_step_91 : decode cL_step 91 = .ok (.iaload, 1) := by decide +kernel
theorem dL_step_92 : decode cL_step 92 = .ok (.iload 7, 2) := by decide +kernel
theorem dL_step_94 : decode cL_step 94 = .ok (.if_icmp .ge 202, 3) := by decide +kernel
theorem dL_step_97 : decode cL_step 97 = .ok (.iload 5, 2) := by decide +kernel
theorem dL_step_99 : decode cL_step 99 = .ok (.ifCond .eq 13, 3) := by decide +kernel
theorem dL_step_102 : decode cL_step 102 = .ok (.aload_n 1, 1) := by decide +kernel
theorem dL_step_103 : decode cL_step 103 = .ok (.aload_n 3, 1) := by decide +kernel
theorem dL_step_104 : decode cL_step 104 = .ok (.iconst 5, 1) := by decide +kernel
theorem dL_step_105 : decode cL_step 105 = .ok (.iaload, 1) := by decide +kernel
theorem dL_step_106 : decode cL_step 106 = .ok (.invokestatic 11, 3) := by decide +kernel
theorem dL_step_109 : decode cL_step 109 = .ok (.goto 4, 3) := by decide +kernel
theorem dL_step_112 : decode cL_step 112 = .ok (.iconst 0, 1) := by decide +kernel
theorem dL_step_113 : decode cL_step 113 = .ok (.istore 9, 2) := by decide +kernel
theorem dL_step_115 : decode cL_step 115 = .ok (.iload 9, 2) := by decide +kernel
theorem dL_step_117 : decode cL_step 117 = .ok (.ifCond .ge 5, 3) := by decide +kernel
theorem dL_step_120 : decode cL_step 120 = .ok (.iconst 5, 1) := by decide +kernel
theorem dL_step_121 : decode cL_step 121 = .ok (.ireturn, 1) := by decide +kernel
theorem dL_step_122 : decode cL_step 122 = .ok (.aload_n 3, 1) := by decide +kernel
theorem dL_step_123 : decode cL_step 123 = .ok (.bipush 8, 2) := by decide +kernel
theorem dL_step_125 : decode cL_step 125 = .ok (.aload_n 3, 1) := by decide +kernel
theorem dL_step_126 : decode cL_step 126 = .ok (.iconst 5, 1) := by decide +kernel
theorem dL_step_127 : decode cL_step 127 = .ok (.iaload, 1) := by decide +kernel
theorem dL_step_128 : decode cL_step 128 = .ok (.iadd, 1) := by decide +kernel
theorem dL_step_129 : decode cL_step 129 = .ok (.dup2, 1) := by decide +kernel
theorem dL_step_130 : decode cL_step 130 = .ok (.iaload, 1) := by decide +kernel
theorem dL_step_131 : decode cL_step 131 = .ok (.iconst 1, 1) := by decide +kernel
theorem dL_step_132 : decode cL_step 132 = .ok (.iadd, 1) := by decide +kernel
theorem dL_step_133 : decode cL_step 133 = .ok (.iastore, 1) := by decide +kernel
theorem dL_step_134 : decode cL_step 134 = .ok (.aload_n 0, 1) := by decide +kernel
theorem dL_step_135 : decode cL_step 135 = .ok (.iload 6, 2) := by decide +kernel
theorem dL_step_137 : decode cL_step 137 = .ok (.aload_n 0, 1) := by decide +kernel
theorem dL_step_138 : decode cL_step 138 = .ok (.iload 6, 2) := by decide +kernel
theorem dL_step_140 : decode cL_step 140 = .ok (.laload, 1) := by decide +kernel
theorem dL_step_141 : decode cL_step 141 = .ok (.ldc2_w 17, 3) := by decide +kernel
theorem dL_step_144 : decode cL_step 144 = .ok (.land, 1) := by decide +kernel
theorem dL_step_145 : decode cL_step 145 = .ok (.aload_n 3, 1) := by decide +kernel
theorem dL_step_146 : decode cL_step 146 = .ok (.iconst 2, 1) := by decide +kernel
theorem dL_step_147 : decode cL_step 147 = .ok (.iaload, 1) := by decide +kernel
theorem dL_step_148 : decode cL_step 148 = .ok (.i2l, 1) := by decide +kernel
theorem dL_step_149 : decode cL_step 149 = .ok (.lor, 1) := by decide +kernel
theorem dL_step_150 : decode cL_step 150 = .ok (.lastore, 1) := by decide +kernel
theorem dL_step_151 : decode cL_step 151 = .ok (.iload 5, 2) := by decide +kernel
theorem dL_step_153 : decode cL_step 153 = .ok (.ifCond .eq 143, 3) := by decide +kernel
theorem dL_step_156 : decode cL_step 156 = .ok (.iload 9, 2) := by decide +kernel
theorem dL_step_158 : decode cL_step 158 = .ok (.iconst 1, 1) := by decide +kernel
theorem dL_step_159 : decode cL_step 159 = .ok (.iadd, 1) := by decide +kernel
theorem dL_step_160 : decode cL_step 160 = .ok (.iconst 4, 1) := by decide +kernel
theorem dL_step_161 : decode cL_step 161 = .ok (.ishl, 1) := by decide +kernel
theorem dL_step_162 : decode cL_step 162 = .ok (.aload_n 2, 1) := by decide +kernel
theorem dL_step_163 : decode cL_step 163 = .ok (.iconst 4, 1) := by decide +kernel
theorem dL_step_164 : decode cL_step 164 = .ok (.aload_n 3, 1) := by decide +kernel
theorem dL_step_165 : decode cL_step 165 = .ok (.iconst 0, 1) := by decide +kernel
theorem dL_step_166 : decode cL_step 166 = .ok (.iaload, 1) := by decide +kernel
theorem dL_step_167 : decode cL_step 167 = .ok (.iadd, 1) := by decide +kernel
theorem dL_step_168 : decode cL_step 168 = .ok (.iaload, 1) := by decide +kernel
theorem dL_step_169 : decode cL_step 169 = .ok (.bipush 50, 2) := by decide +kernel
theorem dL_step_171 : decode cL_step 171 = .ok (.iadd, 1) := by decide +kernel
theorem dL_step_172 : decode cL_step 172 = .ok (.bipush 10, 2) := by decide +kernel
theorem dL_step_174 : decode cL_step 174 = .ok (.ishl, 1) := by decide +kernel
theorem dL_step_175 : decode cL_step 175 = .ok (.iadd, 1) := by decide +kernel
theorem dL_step_176 : decode cL_step 176 = .ok (.aload_n 2, 1) := by decide +kernel
theorem dL_step_177 : decode cL_step 177 = .ok (.iconst 1, 1) := by decide +kernel
theorem dL_step_178 : decode cL_step 178 = .ok (.iaload, 1) := by decide +kernel
theorem dL_step_179 : decode cL_step 179 = .ok (.aload_n 3, 1) := by decide +kernel
theorem dL_step_180 : decode cL_step 180 = .ok (.iconst 0, 1) := by decide +kernel
theorem dL_step_181 : decode cL_step 181 = .ok (.iaload, 1) := by decide +kernel
theorem dL_step_182 : decode cL_step 182 = .ok (.imul, 1) := by decide +kernel
theorem dL_step_183 : decode cL_step 183 = .ok (.bipush 10, 2) := by decide +kernel
theorem dL_step_185 : decode cL_step 185 = .ok (.idiv, 1) := by decide +kernel
theorem dL_step_186 : decode cL_step 186 = .ok (.bipush 18, 2) := by decide +kernel
theorem dL_step_188 : decode cL_step 188 = .ok (.ishl, 1) := by decide +kernel
theorem dL_step_189 : decode cL_step 189 = .ok (.iadd, 1) := by decide +kernel
theorem dL_step_190 : decode cL_step 190 = .ok (.i2l, 1) := by decide +kernel
theorem dL_step_191 : decode cL_step 191 = .ok (.lstore 10, 2) := by decide +kernel
theorem dL_step_193 : decode cL_step 193 = .ok (.aload_n 1, 1) := by decide +kernel
theorem dL_step_194 : decode cL_step 194 = .ok (.bipush 9, 2) := by decide +kernel
theorem dL_step_196 : decode cL_step 196 = .ok (.iload 9, 2) := by decide +kernel
theorem dL_step_198 : decode cL_step 198 = .ok (.imul, 1) := by decide +kernel
theorem dL_step_199 : decode cL_step 199 = .ok (.iconst 2, 1) := by decide +kernel
theorem dL_step_200 : decode cL_step 200 = .ok (.iadd, 1) := by decide +kernel
theorem dL_step_201 : decode cL_step 201 = .ok (.iaload, 1) := by decide +kernel
theorem dL_step_202 : decode cL_step 202 = .ok (.iconst 4, 1) := by decide +kernel
theorem dL_step_203 : decode cL_step 203 = .ok (.idiv, 1) := by decide +kernel
theorem dL_step_204 : decode cL_step 204 = .ok (.i2l, 1) := by decide +kernel
theorem dL_step_205 : decode cL_step 205 = .ok (.lstore 12, 2) := by decide +kernel
theorem dL_step_207 : decode cL_step 207 = .ok (.aload_n 1, 1) := by decide +kernel
theorem dL_step_208 : decode cL_step 208 = .ok (.bipush 9, 2) := by decide +kernel
theorem dL_step_210 : decode cL_step 210 = .ok (.iload 9, 2) := by decide +kernel
theorem dL_step_212 : decode cL_step 212 = .ok (.imul, 1) := by decide +kernel
theorem dL_step_213 : decode cL_step 213 = .ok (.iconst 3, 1) := by decide +kernel
theorem dL_step_214 : decode cL_step 214 = .ok (.iadd, 1) := by decide +kernel
theorem dL_step_215 : decode cL_step 215 = .ok (.iaload, 1) := by decide +kernel
theorem dL_step_216 : decode cL_step 216 = .ok (.sipush 200, 3) := by decide +kernel
theorem dL_step_219 : decode cL_step 219 = .ok (.iadd, 1) := by decide +kernel
theorem dL_step_220 : decode cL_step 220 = .ok (.i2l, 1) := by decide +kernel
theorem dL_step_221 : decode cL_step 221 = .ok (.lstore 14, 2) := by decide +kernel
theorem dL_step_223 : decode cL_step 223 = .ok (.aload_n 0, 1) := by decide +kernel
theorem dL_step_224 : decode cL_step 224 = .ok (.iload 6, 2) := by decide +kernel
theorem dL_step_226 : decode cL_step 226 = .ok (.aload_n 0, 1) := by decide +kernel
theorem dL_step_227 : decode cL_step 227 = .ok (.iload 6, 2) := by decide +kernel
theorem dL_step_229 : decode cL_step 229 = .ok (.laload, 1) := by decide +kernel
theorem dL_step_230 : decode cL_step 230 = .ok (.ldc2_w 19, 3) := by decide +kernel
theorem dL_step_233 : decode cL_step 233 = .ok (.land, 1) := by decide +kernel
theorem dL_step_234 : decode cL_step 234 = .ok (.aload_n 3, 1) := by decide +kernel
theorem dL_step_235 : decode cL_step 235 = .ok (.iconst 2, 1) := by decide +kernel
theorem dL_step_236 : decode cL_step 236 = .ok (.iaload, 1) := by decide +kernel
theorem dL_step_237 : decode cL_step 237 = .ok (.i2l, 1) := by decide +kernel
theorem dL_step_238 : decode cL_step 238 = .ok (.lor, 1) := by decide +kernel
theorem dL_step_239 : decode cL_step 239 = .ok (.lload 10, 2) := by decide +kernel
theorem dL_step_241 : decode cL_step 241 = .ok (.lor, 1) := by decide +kernel
theorem dL_step_242 : decode cL_step 242 = .ok (.lload 12, 2) := by decide +kernel
theorem dL_step_244 : decode cL_step 244 = .ok (.bipush 26, 2) := by decide +kernel
theorem dL_step_246 : decode cL_step 246 = .ok (.lshl, 1) := by decide +kernel
theorem dL_step_247 : decode cL_step 247 = .ok (.lor, 1) := by decide +kernel
theorem dL_step_248 : decode cL_step 248 = .ok (.lload 14, 2) := by decide +kernel
theorem dL_step_250 : decode cL_step 250 = .ok (.bipush 34, 2) := by decide +kernel
theorem dL_step_252 : decode cL_step 252 = .ok (.lshl, 1) := by decide +kernel
theorem dL_step_253 : decode cL_step 253 = .ok (.lor, 1) := by decide +kernel
theorem dL_step_254 : decode cL_step 254 = .ok (.lastore, 1) := by decide +kernel
theorem dL_step_255 : decode cL_step 255 = .ok (.aload_n 1, 1) := by decide +kernel
theorem dL_step_256 : decode cL_step 256 = .ok (.bipush 9, 2) := by decide +kernel
theorem dL_step_258 : decode cL_step 258 = .ok (.iload 9, 2) := by decide +kernel
theorem dL_step_260 : decode cL_step 260 = .ok (.imul, 1) := by decide +kernel
theorem dL_step_261 : decode cL_step 261 = .ok (.iconst 2, 1) := by decide +kernel
theorem dL_step_262 : decode cL_step 262 = .ok (.iadd, 1) := by decide +kernel
theorem dL_step_263 : decode cL_step 263 = .ok (.dup2, 1) := by decide +kernel
theorem dL_step_264 : decode cL_step 264 = .ok (.iaload, 1) := by decide +kernel
theorem dL_step_265 : decode cL_step 265 = .ok (.iconst 1, 1) := by decide +kernel
theorem dL_step_266 : decode cL_step 266 = .ok (.iadd, 1) := by decide +kernel
theorem dL_step_267 : decode cL_step 267 = .ok (.iastore, 1) := by decide +kernel
theorem dL_step_268 : decode cL_step 268 = .ok (.aload_n 2, 1) := by decide +kernel
theorem dL_step_269 : decode cL_step 269 = .ok (.iconst 0, 1) := by decide +kernel
theorem dL_step_270 : decode cL_step 270 = .ok (.dup2, 1) := by decide +kernel
theorem dL_step_271 : decode cL_step 271 = .ok (.iaload, 1) := by decide +kernel
theorem dL_step_272 : decode cL_step 272 = .ok (.iconst 1, 1) := by decide +kernel
theorem dL_step_273 : decode cL_step 273 = .ok (.iadd, 1) := by decide +kernel
theorem dL_step_274 : decode cL_step 274 = .ok (.iastore, 1) := by decide +kernel
theorem dL_step_275 : decode cL_step 275 = .ok (.aload_n 2, 1) := by decide +kernel
theorem dL_step_276 : decode cL_step 276 = .ok (.iconst 1, 1) := by decide +kernel
theorem dL_step_277 : decode cL_step 277 = .ok (.aload_n 2, 1) := by decide +kernel
theorem dL_step_278 : decode cL_step 278 = .ok (.iconst 1, 1) := by decide +kernel
theorem dL_step_279 : decode cL_step 279 = .ok (.iaload, 1) := by decide +kernel
theorem dL_step_280 : decode cL_step 280 = .ok (.bipush 99, 2) := by decide +kernel
theorem dL_step_282 : decode cL_step 282 = .ok (.if_icmp .ne 8, 3) := by decide +kernel
theorem dL_step_285 : decode cL_step 285 = .ok (.bipush 99, 2) := by decide +kernel
theorem dL_step_287 : decode cL_step 287 = .ok (.goto 8, 3) := by decide +kernel
theorem dL_step_290 : decode cL_step 290 = .ok (.aload_n 2, 1) := by decide +kernel
theorem dL_step_291 : decode cL_step 291 = .ok (.iconst 1, 1) := by decide +kernel
theorem dL_step_292 : decode cL_step 292 = .ok (.iaload, 1) := by decide +kernel
theorem dL_step_293 : decode cL_step 293 = .ok (.iconst 1, 1) := by decide +kernel
theorem dL_step_294 : decode cL_step 294 = .ok (.iadd, 1) := by decide +kernel
theorem dL_step_295 : decode cL_step 295 = .ok (.iastore, 1) := by decide +kernel
theorem dL_step_296 : decode cL_step 296 = .ok (.aload_n 3, 1) := by decide +kernel
theorem dL_step_297 : decode cL_step 297 = .ok (.bipush 6, 2) := by decide +kernel
theorem dL_step_299 : decode cL_step 299 = .ok (.dup2, 1) := by decide +kernel
theorem dL_step_300 : decode cL_step 300 = .ok (.iaload, 1) := by decide +kernel
theorem dL_step_301 : decode cL_step 301 = .ok (.iconst 1, 1) := by decide +kernel
theorem dL_step_302 : decode cL_step 302 = .ok (.iadd, 1) := by decide +kernel
theorem dL_step_303 : decode cL_step 303 = .ok (.iastore, 1) := by decide +kernel
theorem dL_step_304 : decode cL_step 304 = .ok (.iconst 0, 1) := by decide +kernel
theorem dL_step_305 : decode cL_step 305 = .ok (.ireturn, 1) := by decide +kernel
theorem dL_move_0 : decode cL_move 0 = .ok (.aload_n 3, 1) := by decide +kernel
theorem dL_move_1 : decode cL_move 1 = .ok (.iconst 4, 1) := by decide +kernel
theorem dL_move_2 : decode cL_move 2 = .ok (.iaload, 1) := by decide +kernel
theorem dL_move_3 : decode cL_move 3 = .ok (.ifCond .ne 13, 3) := by decide +kernel
theorem dL_move_6 : decode cL_move 6 = .ok (.iload 5, 2) := by decide +kernel
theorem dL_move_8 : decode cL_move 8 = .ok (.aload_n 3, 1) := by decide +kernel
theorem dL_move_9 : decode cL_move 9 = .ok (.iload 4, 2) := by decide +kernel
theorem dL_move_11 : decode cL_move 11 = .ok (.iaload, 1) := by decide +kernel
theorem dL_move_12 : decode cL_move 12 = .ok (.isub, 1) := by decide +kernel
theorem dL_move_13 : decode cL_move 13 = .ok (.goto 5, 3) := by decide +kernel
theorem dL_move_16 : decode cL_move 16 = .ok (.iload 5, 2) := by decide +kernel
theorem dL_move_18 : decode cL_move 18 = .ok (.istore 8, 2) := by decide +kernel
theorem dL_move_20 : decode cL_move 20 = .ok (.aload_n 3, 1) := by decide +kernel
theorem dL_move_21 : decode cL_move 21 = .ok (.iload 4, 2) := by decide +kernel
theorem dL_move_23 : decode cL_move 23 = .ok (.iaload, 1) := by decide +kernel
theorem dL_move_24 : decode cL_move 24 = .ok (.iload 8, 2) := by decide +kernel
theorem dL_move_26 : decode cL_move 26 = .ok (.iadd, 1) := by decide +kernel
theorem dL_move_27 : decode cL_move 27 = .ok (.ifCond .lt 26, 3) := by decide +kernel
theorem dL_move_30 : decode cL_move 30 = .ok (.aload_n 3, 1) := by decide +kernel
theorem dL_move_31 : decode cL_move 31 = .ok (.iload 4, 2) := by decide +kernel
theorem dL_move_33 : decode cL_move 33 = .ok (.iaload, 1) := by decide +kernel
theorem dL_move_34 : decode cL_move 34 = .ok (.iload 8, 2) := by decide +kernel
theorem dL_move_36 : decode cL_move 36 = .ok (.iadd, 1) := by decide +kernel
theorem dL_move_37 : decode cL_move 37 = .ok (.iload 4, 2) := by decide +kernel
theorem dL_move_39 : decode cL_move 39 = .ok (.iconst 2, 1) := by decide +kernel
theorem dL_move_40 : decode cL_move 40 = .ok (.if_icmp .ne 8, 3) := by decide +kernel
theorem dL_move_43 : decode cL_move 43 = .ok (.bipush 9, 2) := by decide +kernel
theorem dL_move_45 : decode cL_move 45 = .ok (.goto 5, 3) := by decide +kernel
theorem dL_move_48 : decode cL_move 48 = .ok (.bipush 11, 2) := by decide +kernel
theorem dL_move_50 : decode cL_move 50 = .ok (.if_icmp .le 5, 3) := by decide +kernel
theorem dL_move_53 : decode cL_move 53 = .ok (.iconst 1, 1) := by decide +kernel
theorem dL_move_54 : decode cL_move 54 = .ok (.ireturn, 1) := by decide +kernel
theorem dL_move_55 : decode cL_move 55 = .ok (.iconst 0, 1) := by decide +kernel
theorem dL_move_56 : decode cL_move 56 = .ok (.istore 9, 2) := by decide +kernel
theorem dL_move_58 : decode cL_move 58 = .ok (.iload 8, 2) := by decide +kernel
theorem dL_move_60 : decode cL_move 60 = .ok (.ifCond .eq 56, 3) := by decide +kernel
theorem dL_move_63 : decode cL_move 63 = .ok (.iload 9, 2) := by decide +kernel
theorem dL_move_65 : decode cL_move 65 = .ok (.ifCond .ne 51, 3) := by decide +kernel
theorem dL_move_68 : decode cL_move 68 = .ok (.aload_n 3, 1) := by decide +kernel
theorem dL_move_69 : decode cL_move 69 = .ok (.iload 4, 2) := by decide +kernel
theorem dL_move_71 : decode cL_move 71 = .ok (.dup2, 1) := by decide +kernel
theorem dL_move_72 : decode cL_move 72 = .ok (.iaload, 1) := by decide +kernel
theorem dL_move_73 : decode cL_move 73 = .ok (.iload 8, 2) := by decide +kernel
theorem dL_move_75 : decode cL_move 75 = .ok (.ifCond .le 7, 3) := by decide +kernel
theorem dL_move_78 : decode cL_move 78 = .ok (.iconst 1, 1) := by decide +kernel
theorem dL_move_79 : decode cL_move 79 = .ok (.goto 4, 3) := by decide +kernel
theorem dL_move_82 : decode cL_move 82 = .ok (.iconst (-1), 1) := by decide +kernel
theorem dL_move_83 : decode cL_move 83 = .ok (.iadd, 1) := by decide +kernel
theorem dL_move_84 : decode cL_move 84 = .ok (.iastore, 1) := by decide +kernel
theorem dL_move_85 : decode cL_move 85 = .ok (.iload 8, 2) := by decide +kernel
theorem dL_move_87 : decode cL_move 87 = .ok (.iload 8, 2) := by decide +kernel
theorem dL_move_89 : decode cL_move 89 = .ok (.ifCond .le 7, 3) := by decide +kernel
theorem dL_move_92 : decode cL_move 92 = .ok (.iconst (-1), 1) := by decide +kernel
theorem dL_move_93 : decode cL_move 93 = .ok (.goto 4, 3) := by decide +kernel
theorem dL_move_96 : decode cL_move 96 = .ok (.iconst 1, 1) := by decide +kernel
theorem dL_move_97 : decode cL_move 97 = .ok (.iadd, 1) := by decide +kernel
theorem dL_move_98 : decode cL_move 98 = .ok (.istore 8, 2) := by decide +kernel
theorem dL_move_100 : decode cL_move 100 = .ok (.aload_n 0, 1) := by decide +kernel
theorem dL_move_101 : decode cL_move 101 = .ok (.aload_n 1, 1) := by decide +kernel
theorem dL_move_102 : decode cL_move 102 = .ok (.aload_n 2, 1) := by decide +kernel
theorem dL_move_103 : decode cL_move 103 = .ok (.aload_n 3, 1) := by decide +kernel
theorem dL_move_104 : decode cL_move 104 = .ok (.iload 6, 2) := by decide +kernel
theorem dL_move_106 : decode cL_move 106 = .ok (.iload 7, 2) := by decide +kernel
theorem dL_move_108 : decode cL_move 108 = .ok (.invokestatic 21, 3) := by decide +kernel
theorem dL_move_111 : decode cL_move 111 = .ok (.istore 9, 2) := by decide +kernel
theorem dL_move_113 : decode cL_move 113 = .ok (.goto (-55), 3) := by decide +kernel
theorem dL_move_116 : decode cL_move 116 = .ok (.iload 9, 2) := by decide +kernel
theorem dL_move_118 : decode cL_move 118 = .ok (.ireturn, 1) := by decide +kernel
theorem dL_block_0 : decode cL_block 0 = .ok (.aload 4, 2) := by decide +kernel
theorem dL_block_2 : decode cL_block 2 = .ok (.bipush 12, 2) := by decide +kernel
theorem dL_block_4 : decode cL_block 4 = .ok (.iaload, 1) := by decide +kernel
theorem dL_block_5 : decode cL_block 5 = .ok (.istore 7, 2) := by decide +kernel
theorem dL_block_7 : decode cL_block 7 = .ok (.aload 4, 2) := by decide +kernel
theorem dL_block_9 : decode cL_block 9 = .ok (.bipush 13, 2) := by decide +kernel
theorem dL_block_11 : decode cL_block 11 = .ok (.iload 7, 2) := by decide +kernel
theorem dL_block_13 : decode cL_block 13 = .ok (.iadd, 1) := by decide +kernel
theorem dL_block_14 : decode cL_block 14 = .ok (.iaload, 1) := by decide +kernel
theorem dL_block_15 : decode cL_block 15 = .ok (.istore 8, 2) := by decide +kernel
theorem dL_block_17 : decode cL_block 17 = .ok (.aload 4, 2) := by decide +kernel
theorem dL_block_19 : decode cL_block 19 = .ok (.bipush 16, 2) := by decide +kernel
theorem dL_block_21 : decode cL_block 21 = .ok (.iload 7, 2) := by decide +kernel
theorem dL_block_23 : decode cL_block 23 = .ok (.iadd, 1) := by decide +kernel
theorem dL_block_24 : decode cL_block 24 = .ok (.iaload, 1) := by decide +kernel
theorem dL_block_25 : decode cL_block 25 = .ok (.aload_n 1, 1) := by decide +kernel
theorem dL_block_26 : decode cL_block 26 = .ok (.bipush 36, 2) := by decide +kernel
theorem dL_block_28 : decode cL_block 28 = .ok (.iload 8, 2) := by decide +kernel
theorem dL_block_30 : decode cL_block 30 = .ok (.iadd, 1) := by decide +kernel
theorem dL_block_31 : decode cL_block 31 = .ok (.iaload, 1) := by decide +kernel
theorem dL_block_32 : decode cL_block 32 = .ok (.if_icmp .ne 14, 3) := by decide +kernel
theorem dL_block_35 : decode cL_block 35 = .ok (.aload 4, 2) := by decide +kernel
theorem dL_block_37 : decode cL_block 37 = .ok (.bipush 12, 2) := by decide +kernel
theorem dL_block_39 : decode cL_block 39 = .ok (.dup2, 1) := by decide +kernel
theorem dL_block_40 : decode cL_block 40 = .ok (.iaload, 1) := by decide +kernel
theorem dL_block_41 : decode cL_block 41 = .ok (.iconst 1, 1) := by decide +kernel
theorem dL_block_42 : decode cL_block 42 = .ok (.isub, 1) := by decide +kernel
theorem dL_block_43 : decode cL_block 43 = .ok (.iastore, 1) := by decide +kernel
theorem dL_block_44 : decode cL_block 44 = .ok (.iconst 0, 1) := by decide +kernel
theorem dL_block_45 : decode cL_block 45 = .ok (.ireturn, 1) := by decide +kernel
theorem dL_block_46 : decode cL_block 46 = .ok (.aload 4, 2) := by decide +kernel
theorem dL_block_48 : decode cL_block 48 = .ok (.bipush 7, 2) := by decide +kernel
theorem dL_block_50 : decode cL_block 50 = .ok (.iaload, 1) := by decide +kernel
theorem dL_block_51 : decode cL_block 51 = .ok (.sipush 600, 3) := by decide +kernel
theorem dL_block_54 : decode cL_block 54 = .ok (.if_icmp .ne 5, 3) := by decide +kernel
theorem dL_block_57 : decode cL_block 57 = .ok (.iconst 4, 1) := by decide +kernel
theorem dL_block_58 : decode cL_block 58 = .ok (.ireturn, 1) := by decide +kernel
theorem dL_block_59 : decode cL_block 59 = .ok (.aload_n 1, 1) := by decide +kernel
theorem dL_block_60 : decode cL_block 60 = .ok (.bipush 12, 2) := by decide +kernel
theorem dL_block_62 : decode cL_block 62 = .ok (.iload 8, 2) := by decide +kernel
theorem dL_block_64 : decode cL_block 64 = .ok (.imul, 1) := by decide +kernel
theorem dL_block_65 : decode cL_block 65 = .ok (.aload 4, 2) := by decide +kernel
theorem dL_block_67 : decode cL_block 67 = .ok (.bipush 16, 2) := by decide +kernel
theorem dL_block_69 : decode cL_block 69 = .ok (.iload 7, 2) := by decide +kernel
theorem dL_block_71 : decode cL_block 71 = .ok (.iadd, 1) := by decide +kernel
theorem dL_block_72 : decode cL_block 72 = .ok (.iaload, 1) := by decide +kernel
theorem dL_block_73 : decode cL_block 73 = .ok (.iadd, 1) := by decide +kernel
theorem dL_block_74 : decode cL_block 74 = .ok (.iaload, 1) := by decide +kernel
theorem dL_block_75 : decode cL_block 75 = .ok (.istore 9, 2) := by decide +kernel
theorem dL_block_77 : decode cL_block 77 = .ok (.iload 9, 2) := by decide +kernel
theorem dL_block_79 : decode cL_block 79 = .ok (.bipush 8, 2) := by decide +kernel
theorem dL_block_81 : decode cL_block 81 = .ok (.irem, 1) := by decide +kernel
theorem dL_block_82 : decode cL_block 82 = .ok (.istore 10, 2) := by decide +kernel
theorem dL_block_84 : decode cL_block 84 = .ok (.iload 9, 2) := by decide +kernel
theorem dL_block_86 : decode cL_block 86 = .ok (.bipush 8, 2) := by decide +kernel
theorem dL_block_88 : decode cL_block 88 = .ok (.idiv, 1) := by decide +kernel
theorem dL_block_89 : decode cL_block 89 = .ok (.bipush 16, 2) := by decide +kernel
theorem dL_block_91 : decode cL_block 91 = .ok (.isub, 1) := by decide +kernel
theorem dL_block_92 : decode cL_block 92 = .ok (.istore 11, 2) := by decide +kernel
theorem dL_block_94 : decode cL_block 94 = .ok (.aload 4, 2) := by decide +kernel
theorem dL_block_96 : decode cL_block 96 = .ok (.bipush 7, 2) := by decide +kernel
theorem dL_block_98 : decode cL_block 98 = .ok (.dup2, 1) := by decide +kernel
theorem dL_block_99 : decode cL_block 99 = .ok (.iaload, 1) := by decide +kernel
theorem dL_block_100 : decode cL_block 100 = .ok (.iconst 1, 1) := by decide +kernel
theorem dL_block_101 : decode cL_block 101 = .ok (.iadd, 1) := by decide +kernel
theorem dL_block_102 : decode cL_block 102 = .ok (.iastore, 1) := by decide +kernel
theorem dL_block_103 : decode cL_block 103 = .ok (.aload 4, 2) := by decide +kernel
theorem dL_block_105 : decode cL_block 105 = .ok (.bipush 16, 2) := by decide +kernel
theorem dL_block_107 : decode cL_block 107 = .ok (.iload 7, 2) := by decide +kernel
theorem dL_block_109 : decode cL_block 109 = .ok (.iadd, 1) := by decide +kernel
theorem dL_block_110 : decode cL_block 110 = .ok (.dup2, 1) := by decide +kernel
theorem dL_block_111 : decode cL_block 111 = .ok (.iaload, 1) := by decide +kernel
theorem dL_block_112 : decode cL_block 112 = .ok (.iconst 1, 1) := by decide +kernel
theorem dL_block_113 : decode cL_block 113 = .ok (.iadd, 1) := by decide +kernel
theorem dL_block_114 : decode cL_block 114 = .ok (.iastore, 1) := by decide +kernel
theorem dL_block_115 : decode cL_block 115 = .ok (.iload 10, 2) := by decide +kernel
theorem dL_block_117 : decode cL_block 117 = .ok (.bipush 6, 2) := by decide +kernel
theorem dL_block_119 : decode cL_block 119 = .ok (.if_icmp .ne 33, 3) := by decide +kernel
theorem dL_block_122 : decode cL_block 122 = .ok (.aload 4, 2) := by decide +kernel
theorem dL_block_124 : decode cL_block 124 = .ok (.bipush 12, 2) := by decide +kernel
theorem dL_block_126 : decode cL_block 126 = .ok (.dup2, 1) := by decide +kernel
theorem dL_block_127 : decode cL_block 127 = .ok (.iaload, 1) := by decide +kernel
theorem dL_block_128 : decode cL_block 128 = .ok (.iconst 1, 1) := by decide +kernel
theorem dL_block_129 : decode cL_block 129 = .ok (.iadd, 1) := by decide +kernel
theorem dL_block_130 : decode cL_block 130 = .ok (.iastore, 1) := by decide +kernel
theorem dL_block_131 : decode cL_block 131 = .ok (.aload 4, 2) := by decide +kernel
theorem dL_block_133 : decode cL_block 133 = .ok (.bipush 14, 2) := by decide +kernel
theorem dL_block_135 : decode cL_block 135 = .ok (.iload 7, 2) := by decide +kernel
theorem dL_block_137 : decode cL_block 137 = .ok (.iadd, 1) := by decide +kernel
theorem dL_block_138 : decode cL_block 138 = .ok (.iload 11, 2) := by decide +kernel
theorem dL_block_140 : decode cL_block 140 = .ok (.iastore, 1) := by decide +kernel
theorem dL_block_141 : decode cL_block 141 = .ok (.aload 4, 2) := by decide +kernel
theorem dL_block_143 : decode cL_block 143 = .ok (.bipush 17, 2) := by decide +kernel
theorem dL_block_145 : decode cL_block 145 = .ok (.iload 7, 2) := by decide +kernel
theorem dL_block_147 : decode cL_block 147 = .ok (.iadd, 1) := by decide +kernel
theorem dL_block_148 : decode cL_block 148 = .ok (.iconst 0, 1) := by decide +kernel
theorem dL_block_149 : decode cL_block 149 = .ok (.iastore, 1) := by decide +kernel
theorem dL_block_150 : decode cL_block 150 = .ok (.iconst 0, 1) := by decide +kernel
theorem dL_block_151 : decode cL_block 151 = .ok (.ireturn, 1) := by decide +kernel
theorem dL_block_152 : decode cL_block 152 = .ok (.iload 10, 2) := by decide +kernel
theorem dL_block_154 : decode cL_block 154 = .ok (.iconst 5, 1) := by decide +kernel
theorem dL_block_155 : decode cL_block 155 = .ok (.if_icmp .ne 14, 3) := by decide +kernel
theorem dL_block_158 : decode cL_block 158 = .ok (.aload 4, 2) := by decide +kernel
theorem dL_block_160 : decode cL_block 160 = .ok (.iconst 2, 1) := by decide +kernel
theorem dL_block_161 : decode cL_block 161 = .ok (.iaload, 1) := by decide +kernel
theorem dL_block_162 : decode cL_block 162 = .ok (.bipush 9, 2) := by decide +kernel
theorem dL_block_164 : decode cL_block 164 = .ok (.if_icmp .ge 5, 3) := by decide +kernel
theorem dL_block_167 : decode cL_block 167 = .ok (.iconst 2, 1) := by decide +kernel
theorem dL_block_168 : decode cL_block 168 = .ok (.ireturn, 1) := by decide +kernel
theorem dL_block_169 : decode cL_block 169 = .ok (.iload 10, 2) := by decide +kernel
theorem dL_block_171 : decode cL_block 171 = .ok (.iconst 1, 1) := by decide +kernel
theorem dL_block_172 : decode cL_block 172 = .ok (.if_icmp .le 28, 3) := by decide +kernel
theorem dL_block_175 : decode cL_block 175 = .ok (.iload 10, 2) := by decide +kernel
theorem dL_block_177 : decode cL_block 177 = .ok (.iconst 5, 1) := by decide +kernel
theorem dL_block_178 : decode cL_block 178 = .ok (.if_icmp .ge 22, 3) := by decide +kernel
theorem dL_block_181 : decode cL_block 181 = .ok (.aload_n 0, 1) := by decide +kernel
theorem dL_block_182 : decode cL_block 182 = .ok (.aload_n 2, 1) := by decide +kernel
theorem dL_block_183 : decode cL_block 183 = .ok (.aload_n 3, 1) := by decide +kernel
theorem dL_block_184 : decode cL_block 184 = .ok (.aload 4, 2) := by decide +kernel
theorem dL_block_186 : decode cL_block 186 = .ok (.iload 10, 2) := by decide +kernel
theorem dL_block_188 : decode cL_block 188 = .ok (.iconst 2, 1) := by decide +kernel
theorem dL_block_189 : decode cL_block 189 = .ok (.isub, 1) := by decide +kernel
theorem dL_block_190 : decode cL_block 190 = .ok (.iload 11, 2) := by decide +kernel
theorem dL_block_192 : decode cL_block 192 = .ok (.iload 5, 2) := by decide +kernel
theorem dL_block_194 : decode cL_block 194 = .ok (.iload 6, 2) := by decide +kernel
theorem dL_block_196 : decode cL_block 196 = .ok (.invokestatic 25, 3) := by decide +kernel
theorem dL_block_199 : decode cL_block 199 = .ok (.ireturn, 1) := by decide +kernel
theorem dL_block_200 : decode cL_block 200 = .ok (.aload 4, 2) := by decide +kernel
theorem dL_block_202 : decode cL_block 202 = .ok (.iload 10, 2) := by decide +kernel
theorem dL_block_204 : decode cL_block 204 = .ok (.iconst 5, 1) := by decide +kernel
theorem dL_block_205 : decode cL_block 205 = .ok (.if_icmp .ne 7, 3) := by decide +kernel
theorem dL_block_208 : decode cL_block 208 = .ok (.iconst 5, 1) := by decide +kernel
theorem dL_block_209 : decode cL_block 209 = .ok (.goto 7, 3) := by decide +kernel
theorem dL_block_212 : decode cL_block 212 = .ok (.iconst 3, 1) := by decide +kernel
theorem dL_block_213 : decode cL_block 213 = .ok (.iload 10, 2) := by decide +kernel
theorem dL_block_215 : decode cL_block 215 = .ok (.iadd, 1) := by decide +kernel
theorem dL_block_216 : decode cL_block 216 = .ok (.iload 11, 2) := by decide +kernel
theorem dL_block_218 : decode cL_block 218 = .ok (.iastore, 1) := by decide +kernel
theorem dL_block_219 : decode cL_block 219 = .ok (.iconst 0, 1) := by decide +kernel
theorem dL_block_220 : decode cL_block 220 = .ok (.ireturn, 1) := by decide +kernel
theorem dL_run_0 : decode cL_run 0 = .ok (.iconst 0, 1) := by decide +kernel
theorem dL_run_1 : decode cL_run 1 = .ok (.istore 8, 2) := by decide +kernel
theorem dL_run_3 : decode cL_run 3 = .ok (.iload 8, 2) := by decide +kernel
theorem dL_run_5 : decode cL_run 5 = .ok (.bipush 20, 2) := by decide +kernel
theorem dL_run_7 : decode cL_run 7 = .ok (.if_icmp .ge 36, 3) := by decide +kernel
theorem dL_run_10 : decode cL_run 10 = .ok (.aload 4, 2) := by decide +kernel
theorem dL_run_12 : decode cL_run 12 = .ok (.iload 8, 2) := by decide +kernel
theorem dL_run_14 : decode cL_run 14 = .ok (.iload 8, 2) := by decide +kernel
theorem dL_run_16 : decode cL_run 16 = .ok (.iconst 2, 1) := by decide +kernel
theorem dL_run_17 : decode cL_run 17 = .ok (.if_icmp .ne 8, 3) := by decide +kernel
theorem dL_run_20 : decode cL_run 20 = .ok (.bipush 9, 2) := by decide +kernel
theorem dL_run_22 : decode cL_run 22 = .ok (.goto 14, 3) := by decide +kernel
theorem dL_run_25 : decode cL_run 25 = .ok (.iload 8, 2) := by decide +kernel
theorem dL_run_27 : decode cL_run 27 = .ok (.iconst 5, 1) := by decide +kernel
theorem dL_run_28 : decode cL_run 28 = .ok (.if_icmp .ne 7, 3) := by decide +kernel
theorem dL_run_31 : decode cL_run 31 = .ok (.iconst (-1), 1) := by decide +kernel
theorem dL_run_32 : decode cL_run 32 = .ok (.goto 4, 3) := by decide +kernel
theorem dL_run_35 : decode cL_run 35 = .ok (.iconst 0, 1) := by decide +kernel
theorem dL_run_36 : decode cL_run 36 = .ok (.iastore, 1) := by decide +kernel
theorem dL_run_37 : decode cL_run 37 = .ok (.iinc 8 1, 3) := by decide +kernel
theorem dL_run_40 : decode cL_run 40 = .ok (.goto (-37), 3) := by decide +kernel
theorem dL_run_43 : decode cL_run 43 = .ok (.aload 4, 2) := by decide +kernel
theorem dL_run_45 : decode cL_run 45 = .ok (.bipush 13, 2) := by decide +kernel
theorem dL_run_47 : decode cL_run 47 = .ok (.iload 5, 2) := by decide +kernel
theorem dL_run_49 : decode cL_run 49 = .ok (.iastore, 1) := by decide +kernel
theorem dL_run_50 : decode cL_run 50 = .ok (.iconst 0, 1) := by decide +kernel
theorem dL_run_51 : decode cL_run 51 = .ok (.istore 8, 2) := by decide +kernel
theorem dL_run_53 : decode cL_run 53 = .ok (.aload 4, 2) := by decide +kernel
theorem dL_run_55 : decode cL_run 55 = .ok (.bipush 12, 2) := by decide +kernel
theorem dL_run_57 : decode cL_run 57 = .ok (.iaload, 1) := by decide +kernel
theorem dL_run_58 : decode cL_run 58 = .ok (.ifCond .lt 26, 3) := by decide +kernel
theorem dL_run_61 : decode cL_run 61 = .ok (.iload 8, 2) := by decide +kernel
theorem dL_run_63 : decode cL_run 63 = .ok (.ifCond .ne 21, 3) := by decide +kernel
theorem dL_run_66 : decode cL_run 66 = .ok (.aload_n 0, 1) := by decide +kernel
theorem dL_run_67 : decode cL_run 67 = .ok (.aload_n 1, 1) := by decide +kernel
theorem dL_run_68 : decode cL_run 68 = .ok (.aload_n 2, 1) := by decide +kernel
theorem dL_run_69 : decode cL_run 69 = .ok (.aload_n 3, 1) := by decide +kernel
theorem dL_run_70 : decode cL_run 70 = .ok (.aload 4, 2) := by decide +kernel
theorem dL_run_72 : decode cL_run 72 = .ok (.iload 6, 2) := by decide +kernel
theorem dL_run_74 : decode cL_run 74 = .ok (.iload 7, 2) := by decide +kernel
theorem dL_run_76 : decode cL_run 76 = .ok (.invokestatic 29, 3) := by decide +kernel
theorem dL_run_79 : decode cL_run 79 = .ok (.istore 8, 2) := by decide +kernel
theorem dL_run_81 : decode cL_run 81 = .ok (.goto (-28), 3) := by decide +kernel
theorem dL_run_84 : decode cL_run 84 = .ok (.iload 8, 2) := by decide +kernel
theorem dL_run_86 : decode cL_run 86 = .ok (.ireturn, 1) := by decide +kernel
theorem dL_copied_0 : decode cL_copied 0 = .ok (.bipush 48, 2) := by decide +kernel
theorem dL_copied_2 : decode cL_copied 2 = .ok (.newarray .long, 2) := by decide +kernel
theorem dL_copied_4 : decode cL_copied 4 = .ok (.astore_n 1, 1) := by decide +kernel
theorem dL_copied_5 : decode cL_copied 5 = .ok (.iconst 0, 1) := by decide +kernel
theorem dL_copied_6 : decode cL_copied 6 = .ok (.istore_n 2, 1) := by decide +kernel
theorem dL_copied_7 : decode cL_copied 7 = .ok (.iload_n 2, 1) := by decide +kernel
theorem dL_copied_8 : decode cL_copied 8 = .ok (.bipush 48, 2) := by decide +kernel
theorem dL_copied_10 : decode cL_copied 10 = .ok (.if_icmp .ge 15, 3) := by decide +kernel
theorem dL_copied_13 : decode cL_copied 13 = .ok (.aload_n 1, 1) := by decide +kernel
theorem dL_copied_14 : decode cL_copied 14 = .ok (.iload_n 2, 1) := by decide +kernel
theorem dL_copied_15 : decode cL_copied 15 = .ok (.aload_n 0, 1) := by decide +kernel
theorem dL_copied_16 : decode cL_copied 16 = .ok (.iload_n 2, 1) := by decide +kernel
theorem dL_copied_17 : decode cL_copied 17 = .ok (.laload, 1) := by decide +kernel
theorem dL_copied_18 : decode cL_copied 18 = .ok (.lastore, 1) := by decide +kernel
theorem dL_copied_19 : decode cL_copied 19 = .ok (.iinc 2 1, 3) := by decide +kernel
theorem dL_copied_22 : decode cL_copied 22 = .ok (.goto (-15), 3) := by decide +kernel
theorem dL_copied_25 : decode cL_copied 25 = .ok (.aload_n 1, 1) := by decide +kernel
theorem dL_copied_26 : decode cL_copied 26 = .ok (.areturn, 1) := by decide +kernel
theorem dL_kept_0 : decode cL_kept 0 = .ok (.bipush 40, 2) := by decide +kernel
theorem dL_kept_2 : decode cL_kept 2 = .ok (.newarray .int, 2) := by decide +kernel
theorem dL_kept_4 : decode cL_kept 4 = .ok (.astore_n 1, 1) := by decide +kernel
theorem dL_kept_5 : decode cL_kept 5 = .ok (.iconst 0, 1) := by decide +kernel
theorem dL_kept_6 : decode cL_kept 6 = .ok (.istore_n 2, 1) := by decide +kernel
theorem dL_kept_7 : decode cL_kept 7 = .ok (.iload_n 2, 1) := by decide +kernel
theorem dL_kept_8 : decode cL_kept 8 = .ok (.aload_n 0, 1) := by decide +kernel
theorem dL_kept_9 : decode cL_kept 9 = .ok (.arraylength, 1) := by decide +kernel
theorem dL_kept_10 : decode cL_kept 10 = .ok (.if_icmp .ge 15, 3) := by decide +kernel
theorem dL_kept_13 : decode cL_kept 13 = .ok (.aload_n 1, 1) := by decide +kernel
theorem dL_kept_14 : decode cL_kept 14 = .ok (.iload_n 2, 1) := by decide +kernel
theorem dL_kept_15 : decode cL_kept 15 = .ok (.aload_n 0, 1) := by decide +kernel
theorem dL_kept_16 : decode cL_kept 16 = .ok (.iload_n 2, 1) := by decide +kernel
theorem dL_kept_17 : decode cL_kept 17 = .ok (.iaload, 1) := by decide +kernel
theorem dL_kept_18 : decode cL_kept 18 = .ok (.iastore, 1) := by decide +kernel
theorem dL_kept_19 : decode cL_kept 19 = .ok (.iinc 2 1, 3) := by decide +kernel
theorem dL_kept_22 : decode cL_kept 22 = .ok (.goto (-15), 3) := by decide +kernel
theorem dL_kept_25 : decode cL_kept 25 = .ok (.aload_n 1, 1) := by decide +kernel
theorem dL_kept_26 : decode cL_kept 26 = .ok (.areturn, 1) := by decide +kernel
theorem dL_night_0 : decode cL_night 0 = .ok (.iconst 0, 1) := by decide +kernel
theorem dL_night_1 : decode cL_night 1 = .ok (.istore 7, 2) := by decide +kernel
theorem dL_night_3 : decode cL_night 3 = .ok (.aload 6, 2) := by decide +kernel
theorem dL_night_5 : decode cL_night 5 = .ok (.bipush 10, 2) := by decide +kernel
theorem dL_night_7 : decode cL_night 7 = .ok (.iaload, 1) := by decide +kernel
theorem dL_night_8 : decode cL_night 8 = .ok (.ifCond .le 7, 3) := by decide +kernel
theorem dL_night_11 : decode cL_night 11 = .ok (.iconst 1, 1) := by decide +kernel
theorem dL_night_12 : decode cL_night 12 = .ok (.goto 4, 3) := by decide +kernel
theorem dL_night_15 : decode cL_night 15 = .ok (.iconst 0, 1) := by decide +kernel
theorem dL_night_16 : decode cL_night 16 = .ok (.istore 8, 2) := by decide +kernel
theorem dL_night_18 : decode cL_night 18 = .ok (.iload 8, 2) := by decide +kernel
theorem dL_night_20 : decode cL_night 20 = .ok (.ifCond .eq 130, 3) := by decide +kernel
theorem dL_night_23 : decode cL_night 23 = .ok (.aload 6, 2) := by decide +kernel
theorem dL_night_25 : decode cL_night 25 = .ok (.bipush 8, 2) := by decide +kernel
theorem dL_night_27 : decode cL_night 27 = .ok (.iaload, 1) := by decide +kernel
theorem dL_night_28 : decode cL_night 28 = .ok (.istore 9, 2) := by decide +kernel
theorem dL_night_30 : decode cL_night 30 = .ok (.iload 9, 2) := by decide +kernel
theorem dL_night_32 : decode cL_night 32 = .ok (.ifCond .ne 7, 3) := by decide +kernel
theorem dL_night_35 : decode cL_night 35 = .ok (.aload_n 0, 1) := by decide +kernel
theorem dL_night_36 : decode cL_night 36 = .ok (.goto 4, 3) := by decide +kernel
theorem dL_night_39 : decode cL_night 39 = .ok (.aload_n 1, 1) := by decide +kernel
theorem dL_night_40 : decode cL_night 40 = .ok (.aload_n 2, 1) := by decide +kernel
theorem dL_night_41 : decode cL_night 41 = .ok (.aload_n 3, 1) := by decide +kernel
theorem dL_night_42 : decode cL_night 42 = .ok (.aload 4, 2) := by decide +kernel
theorem dL_night_44 : decode cL_night 44 = .ok (.aload 5, 2) := by decide +kernel
theorem dL_night_46 : decode cL_night 46 = .ok (.aload 6, 2) := by decide +kernel
theorem dL_night_48 : decode cL_night 48 = .ok (.iconst 4, 1) := by decide +kernel
theorem dL_night_49 : decode cL_night 49 = .ok (.iload 9, 2) := by decide +kernel
theorem dL_night_51 : decode cL_night 51 = .ok (.imul, 1) := by decide +kernel
theorem dL_night_52 : decode cL_night 52 = .ok (.iconst 1, 1) := by decide +kernel
theorem dL_night_53 : decode cL_night 53 = .ok (.iadd, 1) := by decide +kernel
theorem dL_night_54 : decode cL_night 54 = .ok (.iaload, 1) := by decide +kernel
theorem dL_night_55 : decode cL_night 55 = .ok (.aload 6, 2) := by decide +kernel
theorem dL_night_57 : decode cL_night 57 = .ok (.iconst 4, 1) := by decide +kernel
theorem dL_night_58 : decode cL_night 58 = .ok (.iload 9, 2) := by decide +kernel
theorem dL_night_60 : decode cL_night 60 = .ok (.imul, 1) := by decide +kernel
theorem dL_night_61 : decode cL_night 61 = .ok (.iconst 2, 1) := by decide +kernel
theorem dL_night_62 : decode cL_night 62 = .ok (.iadd, 1) := by decide +kernel
theorem dL_night_63 : decode cL_night 63 = .ok (.iaload, 1) := by decide +kernel
theorem dL_night_64 : decode cL_night 64 = .ok (.iconst 1, 1) := by decide +kernel
theorem dL_night_65 : decode cL_night 65 = .ok (.invokestatic 33, 3) := by decide +kernel
theorem dL_night_68 : decode cL_night 68 = .ok (.ifCond .ne 7, 3) := by decide +kernel
theorem dL_night_71 : decode cL_night 71 = .ok (.iconst 1, 1) := by decide +kernel
theorem dL_night_72 : decode cL_night 72 = .ok (.goto 4, 3) := by decide +kernel
theorem dL_night_75 : decode cL_night 75 = .ok (.iconst 0, 1) := by decide +kernel
theorem dL_night_76 : decode cL_night 76 = .ok (.istore 8, 2) := by decide +kernel
theorem dL_night_78 : decode cL_night 78 = .ok (.aload 6, 2) := by decide +kernel
theorem dL_night_80 : decode cL_night 80 = .ok (.iconst 4, 1) := by decide +kernel
theorem dL_night_81 : decode cL_night 81 = .ok (.iload 9, 2) := by decide +kernel
theorem dL_night_83 : decode cL_night 83 = .ok (.imul, 1) := by decide +kernel
theorem dL_night_84 : decode cL_night 84 = .ok (.iconst 2, 1) := by decide +kernel
theorem dL_night_85 : decode cL_night 85 = .ok (.iadd, 1) := by decide +kernel
theorem dL_night_86 : decode cL_night 86 = .ok (.aload 5, 2) := by decide +kernel
theorem dL_night_88 : decode cL_night 88 = .ok (.bipush 6, 2) := by decide +kernel
theorem dL_night_90 : decode cL_night 90 = .ok (.iaload, 1) := by decide +kernel
theorem dL_night_91 : decode cL_night 91 = .ok (.iastore, 1) := by decide +kernel
theorem dL_night_92 : decode cL_night 92 = .ok (.iload 8, 2) := by decide +kernel
theorem dL_night_94 : decode cL_night 94 = .ok (.ifCond .eq 33, 3) := by decide +kernel
theorem dL_night_97 : decode cL_night 97 = .ok (.aload 6, 2) := by decide +kernel
theorem dL_night_99 : decode cL_night 99 = .ok (.iconst 4, 1) := by decide +kernel
theorem dL_night_100 : decode cL_night 100 = .ok (.iload 9, 2) := by decide +kernel
theorem dL_night_102 : decode cL_night 102 = .ok (.imul, 1) := by decide +kernel
theorem dL_night_103 : decode cL_night 103 = .ok (.iconst 2, 1) := by decide +kernel
theorem dL_night_104 : decode cL_night 104 = .ok (.iastore, 1) := by decide +kernel
theorem dL_night_105 : decode cL_night 105 = .ok (.aload 6, 2) := by decide +kernel
theorem dL_night_107 : decode cL_night 107 = .ok (.bipush 8, 2) := by decide +kernel
theorem dL_night_109 : decode cL_night 109 = .ok (.aload 6, 2) := by decide +kernel
theorem dL_night_111 : decode cL_night 111 = .ok (.bipush 9, 2) := by decide +kernel
theorem dL_night_113 : decode cL_night 113 = .ok (.iaload, 1) := by decide +kernel
theorem dL_night_114 : decode cL_night 114 = .ok (.iastore, 1) := by decide +kernel
theorem dL_night_115 : decode cL_night 115 = .ok (.aload 6, 2) := by decide +kernel
theorem dL_night_117 : decode cL_night 117 = .ok (.bipush 10, 2) := by decide +kernel
theorem dL_night_119 : decode cL_night 119 = .ok (.dup2, 1) := by decide +kernel
theorem dL_night_120 : decode cL_night 120 = .ok (.iaload, 1) := by decide +kernel
theorem dL_night_121 : decode cL_night 121 = .ok (.iconst 1, 1) := by decide +kernel
theorem dL_night_122 : decode cL_night 122 = .ok (.isub, 1) := by decide +kernel
theorem dL_night_123 : decode cL_night 123 = .ok (.iastore, 1) := by decide +kernel
theorem dL_night_124 : decode cL_night 124 = .ok (.iinc 7 1, 3) := by decide +kernel
theorem dL_night_127 : decode cL_night 127 = .ok (.iload 8, 2) := by decide +kernel
theorem dL_night_129 : decode cL_night 129 = .ok (.ifCond .eq 15, 3) := by decide +kernel
theorem dL_night_132 : decode cL_night 132 = .ok (.aload 6, 2) := by decide +kernel
theorem dL_night_134 : decode cL_night 134 = .ok (.bipush 10, 2) := by decide +kernel
theorem dL_night_136 : decode cL_night 136 = .ok (.iaload, 1) := by decide +kernel
theorem dL_night_137 : decode cL_night 137 = .ok (.ifCond .le 7, 3) := by decide +kernel
theorem dL_night_140 : decode cL_night 140 = .ok (.iconst 1, 1) := by decide +kernel
theorem dL_night_141 : decode cL_night 141 = .ok (.goto 4, 3) := by decide +kernel
theorem dL_night_144 : decode cL_night 144 = .ok (.iconst 0, 1) := by decide +kernel
theorem dL_night_145 : decode cL_night 145 = .ok (.istore 8, 2) := by decide +kernel
theorem dL_night_147 : decode cL_night 147 = .ok (.goto (-129), 3) := by decide +kernel
theorem dL_night_150 : decode cL_night 150 = .ok (.iload 7, 2) := by decide +kernel
theorem dL_night_152 : decode cL_night 152 = .ok (.ireturn, 1) := by decide +kernel
theorem dL_foreseen_0 : decode cL_foreseen 0 = .ok (.aload_n 0, 1) := by decide +kernel
theorem dL_foreseen_1 : decode cL_foreseen 1 = .ok (.invokestatic 37, 3) := by decide +kernel
theorem dL_foreseen_4 : decode cL_foreseen 4 = .ok (.aload_n 1, 1) := by decide +kernel
theorem dL_foreseen_5 : decode cL_foreseen 5 = .ok (.invokestatic 37, 3) := by decide +kernel
theorem dL_foreseen_8 : decode cL_foreseen 8 = .ok (.aload_n 2, 1) := by decide +kernel
theorem dL_foreseen_9 : decode cL_foreseen 9 = .ok (.aload_n 3, 1) := by decide +kernel
theorem dL_foreseen_10 : decode cL_foreseen 10 = .ok (.invokestatic 41, 3) := by decide +kernel
theorem dL_foreseen_13 : decode cL_foreseen 13 = .ok (.aload 4, 2) := by decide +kernel
theorem dL_foreseen_15 : decode cL_foreseen 15 = .ok (.invokestatic 41, 3) := by decide +kernel
theorem dL_foreseen_18 : decode cL_foreseen 18 = .ok (.aload 5, 2) := by decide +kernel
theorem dL_foreseen_20 : decode cL_foreseen 20 = .ok (.aload 6, 2) := by decide +kernel
theorem dL_foreseen_22 : decode cL_foreseen 22 = .ok (.invokestatic 41, 3) := by decide +kernel
theorem dL_foreseen_25 : decode cL_foreseen 25 = .ok (.invokestatic 45, 3) := by decide +kernel
theorem dL_foreseen_28 : decode cL_foreseen 28 = .ok (.ireturn, 1) := by decide +kernel
theorem dL_lacks_0 : decode cL_lacks 0 = .ok (.iconst 0, 1) := by decide +kernel
theorem dL_lacks_1 : decode cL_lacks 1 = .ok (.istore 8, 2) := by decide +kernel
theorem dL_lacks_3 : decode cL_lacks 3 = .ok (.iconst 0, 1) := by decide +kernel
theorem dL_lacks_4 : decode cL_lacks 4 = .ok (.istore 9, 2) := by decide +kernel
theorem dL_lacks_6 : decode cL_lacks 6 = .ok (.iload 9, 2) := by decide +kernel
theorem dL_lacks_8 : decode cL_lacks 8 = .ok (.aload 6, 2) := by decide +kernel
theorem dL_lacks_10 : decode cL_lacks 10 = .ok (.bipush 10, 2) := by decide +kernel
theorem dL_lacks_12 : decode cL_lacks 12 = .ok (.iaload, 1) := by decide +kernel
theorem dL_lacks_13 : decode cL_lacks 13 = .ok (.if_icmp .ge 86, 3) := by decide +kernel
theorem dL_lacks_16 : decode cL_lacks 16 = .ok (.aload 6, 2) := by decide +kernel
theorem dL_lacks_18 : decode cL_lacks 18 = .ok (.bipush 8, 2) := by decide +kernel
theorem dL_lacks_20 : decode cL_lacks 20 = .ok (.iload 9, 2) := by decide +kernel
theorem dL_lacks_22 : decode cL_lacks 22 = .ok (.iadd, 1) := by decide +kernel
theorem dL_lacks_23 : decode cL_lacks 23 = .ok (.iaload, 1) := by decide +kernel
theorem dL_lacks_24 : decode cL_lacks 24 = .ok (.istore 10, 2) := by decide +kernel
theorem dL_lacks_26 : decode cL_lacks 26 = .ok (.iload 10, 2) := by decide +kernel
theorem dL_lacks_28 : decode cL_lacks 28 = .ok (.ifCond .ne 7, 3) := by decide +kernel
theorem dL_lacks_31 : decode cL_lacks 31 = .ok (.aload_n 0, 1) := by decide +kernel
theorem dL_lacks_32 : decode cL_lacks 32 = .ok (.goto 4, 3) := by decide +kernel
theorem dL_lacks_35 : decode cL_lacks 35 = .ok (.aload_n 1, 1) := by decide +kernel
theorem dL_lacks_36 : decode cL_lacks 36 = .ok (.invokestatic 37, 3) := by decide +kernel
theorem dL_lacks_39 : decode cL_lacks 39 = .ok (.aload_n 2, 1) := by decide +kernel
theorem dL_lacks_40 : decode cL_lacks 40 = .ok (.aload_n 3, 1) := by decide +kernel
theorem dL_lacks_41 : decode cL_lacks 41 = .ok (.aload 4, 2) := by decide +kernel
theorem dL_lacks_43 : decode cL_lacks 43 = .ok (.aload 5, 2) := by decide +kernel
theorem dL_lacks_45 : decode cL_lacks 45 = .ok (.aload 6, 2) := by decide +kernel
theorem dL_lacks_47 : decode cL_lacks 47 = .ok (.iconst 4, 1) := by decide +kernel
theorem dL_lacks_48 : decode cL_lacks 48 = .ok (.iload 10, 2) := by decide +kernel
theorem dL_lacks_50 : decode cL_lacks 50 = .ok (.imul, 1) := by decide +kernel
theorem dL_lacks_51 : decode cL_lacks 51 = .ok (.iconst 1, 1) := by decide +kernel
theorem dL_lacks_52 : decode cL_lacks 52 = .ok (.iadd, 1) := by decide +kernel
theorem dL_lacks_53 : decode cL_lacks 53 = .ok (.iaload, 1) := by decide +kernel
theorem dL_lacks_54 : decode cL_lacks 54 = .ok (.aload 6, 2) := by decide +kernel
theorem dL_lacks_56 : decode cL_lacks 56 = .ok (.iconst 4, 1) := by decide +kernel
theorem dL_lacks_57 : decode cL_lacks 57 = .ok (.iload 10, 2) := by decide +kernel
theorem dL_lacks_59 : decode cL_lacks 59 = .ok (.imul, 1) := by decide +kernel
theorem dL_lacks_60 : decode cL_lacks 60 = .ok (.iconst 2, 1) := by decide +kernel
theorem dL_lacks_61 : decode cL_lacks 61 = .ok (.iadd, 1) := by decide +kernel
theorem dL_lacks_62 : decode cL_lacks 62 = .ok (.iaload, 1) := by decide +kernel
theorem dL_lacks_63 : decode cL_lacks 63 = .ok (.iconst 0, 1) := by decide +kernel
theorem dL_lacks_64 : decode cL_lacks 64 = .ok (.invokestatic 33, 3) := by decide +kernel
theorem dL_lacks_67 : decode cL_lacks 67 = .ok (.istore 11, 2) := by decide +kernel
theorem dL_lacks_69 : decode cL_lacks 69 = .ok (.iload 8, 2) := by decide +kernel
theorem dL_lacks_71 : decode cL_lacks 71 = .ok (.iload 11, 2) := by decide +kernel
theorem dL_lacks_73 : decode cL_lacks 73 = .ok (.ifCond .ne 14, 3) := by decide +kernel
theorem dL_lacks_76 : decode cL_lacks 76 = .ok (.aload 5, 2) := by decide +kernel
theorem dL_lacks_78 : decode cL_lacks 78 = .ok (.bipush 8, 2) := by decide +kernel
theorem dL_lacks_80 : decode cL_lacks 80 = .ok (.iload 7, 2) := by decide +kernel
theorem dL_lacks_82 : decode cL_lacks 82 = .ok (.iadd, 1) := by decide +kernel
theorem dL_lacks_83 : decode cL_lacks 83 = .ok (.iaload, 1) := by decide +kernel
theorem dL_lacks_84 : decode cL_lacks 84 = .ok (.goto 6, 3) := by decide +kernel
theorem dL_lacks_87 : decode cL_lacks 87 = .ok (.sipush 1000, 3) := by decide +kernel
theorem dL_lacks_90 : decode cL_lacks 90 = .ok (.iadd, 1) := by decide +kernel
theorem dL_lacks_91 : decode cL_lacks 91 = .ok (.istore 8, 2) := by decide +kernel
theorem dL_lacks_93 : decode cL_lacks 93 = .ok (.iinc 9 1, 3) := by decide +kernel
theorem dL_lacks_96 : decode cL_lacks 96 = .ok (.goto (-90), 3) := by decide +kernel
theorem dL_lacks_99 : decode cL_lacks 99 = .ok (.iconst 0, 1) := by decide +kernel
theorem dL_lacks_100 : decode cL_lacks 100 = .ok (.istore 9, 2) := by decide +kernel
theorem dL_lacks_102 : decode cL_lacks 102 = .ok (.iload 9, 2) := by decide +kernel
theorem dL_lacks_104 : decode cL_lacks 104 = .ok (.iconst 4, 1) := by decide +kernel
theorem dL_lacks_105 : decode cL_lacks 105 = .ok (.if_icmp .ge 62, 3) := by decide +kernel
theorem dL_lacks_108 : decode cL_lacks 108 = .ok (.iload 8, 2) := by decide +kernel
theorem dL_lacks_110 : decode cL_lacks 110 = .ok (.aload_n 3, 1) := by decide +kernel
theorem dL_lacks_111 : decode cL_lacks 111 = .ok (.bipush 9, 2) := by decide +kernel
theorem dL_lacks_113 : decode cL_lacks 113 = .ok (.iload 9, 2) := by decide +kernel
theorem dL_lacks_115 : decode cL_lacks 115 = .ok (.imul, 1) := by decide +kernel
theorem dL_lacks_116 : decode cL_lacks 116 = .ok (.iaload, 1) := by decide +kernel
theorem dL_lacks_117 : decode cL_lacks 117 = .ok (.iload 7, 2) := by decide +kernel
theorem dL_lacks_119 : decode cL_lacks 119 = .ok (.if_icmp .ne 38, 3) := by decide +kernel
theorem dL_lacks_122 : decode cL_lacks 122 = .ok (.aload_n 3, 1) := by decide +kernel
theorem dL_lacks_123 : decode cL_lacks 123 = .ok (.bipush 9, 2) := by decide +kernel
theorem dL_lacks_125 : decode cL_lacks 125 = .ok (.iload 9, 2) := by decide +kernel
theorem dL_lacks_127 : decode cL_lacks 127 = .ok (.imul, 1) := by decide +kernel
theorem dL_lacks_128 : decode cL_lacks 128 = .ok (.iconst 4, 1) := by decide +kernel
theorem dL_lacks_129 : decode cL_lacks 129 = .ok (.iadd, 1) := by decide +kernel
theorem dL_lacks_130 : decode cL_lacks 130 = .ok (.iaload, 1) := by decide +kernel
theorem dL_lacks_131 : decode cL_lacks 131 = .ok (.iconst 1, 1) := by decide +kernel
theorem dL_lacks_132 : decode cL_lacks 132 = .ok (.if_icmp .ne 25, 3) := by decide +kernel
theorem dL_lacks_135 : decode cL_lacks 135 = .ok (.aload_n 3, 1) := by decide +kernel
theorem dL_lacks_136 : decode cL_lacks 136 = .ok (.bipush 9, 2) := by decide +kernel
theorem dL_lacks_138 : decode cL_lacks 138 = .ok (.iload 9, 2) := by decide +kernel
theorem dL_lacks_140 : decode cL_lacks 140 = .ok (.imul, 1) := by decide +kernel
theorem dL_lacks_141 : decode cL_lacks 141 = .ok (.iconst 1, 1) := by decide +kernel
theorem dL_lacks_142 : decode cL_lacks 142 = .ok (.iadd, 1) := by decide +kernel
theorem dL_lacks_143 : decode cL_lacks 143 = .ok (.iaload, 1) := by decide +kernel
theorem dL_lacks_144 : decode cL_lacks 144 = .ok (.aload_n 3, 1) := by decide +kernel
theorem dL_lacks_145 : decode cL_lacks 145 = .ok (.bipush 9, 2) := by decide +kernel
theorem dL_lacks_147 : decode cL_lacks 147 = .ok (.iload 9, 2) := by decide +kernel
theorem dL_lacks_149 : decode cL_lacks 149 = .ok (.imul, 1) := by decide +kernel
theorem dL_lacks_150 : decode cL_lacks 150 = .ok (.iconst 2, 1) := by decide +kernel
theorem dL_lacks_151 : decode cL_lacks 151 = .ok (.iadd, 1) := by decide +kernel
theorem dL_lacks_152 : decode cL_lacks 152 = .ok (.iaload, 1) := by decide +kernel
theorem dL_lacks_153 : decode cL_lacks 153 = .ok (.isub, 1) := by decide +kernel
theorem dL_lacks_154 : decode cL_lacks 154 = .ok (.goto 4, 3) := by decide +kernel
theorem dL_lacks_157 : decode cL_lacks 157 = .ok (.iconst 0, 1) := by decide +kernel
theorem dL_lacks_158 : decode cL_lacks 158 = .ok (.isub, 1) := by decide +kernel
theorem dL_lacks_159 : decode cL_lacks 159 = .ok (.istore 8, 2) := by decide +kernel
theorem dL_lacks_161 : decode cL_lacks 161 = .ok (.iinc 9 1, 3) := by decide +kernel
theorem dL_lacks_164 : decode cL_lacks 164 = .ok (.goto (-62), 3) := by decide +kernel
theorem dL_lacks_167 : decode cL_lacks 167 = .ok (.iload 8, 2) := by decide +kernel
theorem dL_lacks_169 : decode cL_lacks 169 = .ok (.ifCond .le 8, 3) := by decide +kernel
theorem dL_lacks_172 : decode cL_lacks 172 = .ok (.iload 8, 2) := by decide +kernel
theorem dL_lacks_174 : decode cL_lacks 174 = .ok (.goto 4, 3) := by decide +kernel
theorem dL_lacks_177 : decode cL_lacks 177 = .ok (.iconst 0, 1) := by decide +kernel
theorem dL_lacks_178 : decode cL_lacks 178 = .ok (.ireturn, 1) := by decide +kernel
theorem dL_part_0 : decode cL_part 0 = .ok (.lload_n 0, 1) := by decide +kernel
theorem dL_part_1 : decode cL_part 1 = .ok (.iconst 4, 1) := by decide +kernel
theorem dL_part_2 : decode cL_part 2 = .ok (.lshr, 1) := by decide +kernel
theorem dL_part_3 : decode cL_part 3 = .ok (.ldc2_w 49, 3) := by decide +kernel
theorem dL_part_6 : decode cL_part 6 = .ok (.land, 1) := by decide +kernel
theorem dL_part_7 : decode cL_part 7 = .ok (.lconst 0, 1) := by decide +kernel
theorem dL_part_8 : decode cL_part 8 = .ok (.lcmp, 1) := by decide +kernel
theorem dL_part_9 : decode cL_part 9 = .ok (.ifCond .ne 5, 3) := by decide +kernel
theorem dL_part_12 : decode cL_part 12 = .ok (.iconst 0, 1) := by decide +kernel
theorem dL_part_13 : decode cL_part 13 = .ok (.ireturn, 1) := by decide +kernel
theorem dL_part_14 : decode cL_part 14 = .ok (.lload_n 0, 1) := by decide +kernel
theorem dL_part_15 : decode cL_part 15 = .ok (.iload_n 2, 1) := by decide +kernel
theorem dL_part_16 : decode cL_part 16 = .ok (.ifCond .ne 8, 3) := by decide +kernel
theorem dL_part_19 : decode cL_part 19 = .ok (.bipush 10, 2) := by decide +kernel
theorem dL_part_21 : decode cL_part 21 = .ok (.goto 25, 3) := by decide +kernel
theorem dL_part_24 : decode cL_part 24 = .ok (.iload_n 2, 1) := by decide +kernel
theorem dL_part_25 : decode cL_part 25 = .ok (.iconst 1, 1) := by decide +kernel
theorem dL_part_26 : decode cL_part 26 = .ok (.if_icmp .ne 8, 3) := by decide +kernel
theorem dL_part_29 : decode cL_part 29 = .ok (.bipush 18, 2) := by decide +kernel
theorem dL_part_31 : decode cL_part 31 = .ok (.goto 15, 3) := by decide +kernel
theorem dL_part_34 : decode cL_part 34 = .ok (.iload_n 2, 1) := by decide +kernel
theorem dL_part_35 : decode cL_part 35 = .ok (.iconst 2, 1) := by decide +kernel
theorem dL_part_36 : decode cL_part 36 = .ok (.if_icmp .ne 8, 3) := by decide +kernel
theorem dL_part_39 : decode cL_part 39 = .ok (.bipush 26, 2) := by decide +kernel
theorem dL_part_41 : decode cL_part 41 = .ok (.goto 5, 3) := by decide +kernel
theorem dL_part_44 : decode cL_part 44 = .ok (.bipush 34, 2) := by decide +kernel
theorem dL_part_46 : decode cL_part 46 = .ok (.lshr, 1) := by decide +kernel
theorem dL_part_47 : decode cL_part 47 = .ok (.iload_n 2, 1) := by decide +kernel
theorem dL_part_48 : decode cL_part 48 = .ok (.iconst 3, 1) := by decide +kernel
theorem dL_part_49 : decode cL_part 49 = .ok (.if_icmp .ne 9, 3) := by decide +kernel
theorem dL_part_52 : decode cL_part 52 = .ok (.ldc2_w 51, 3) := by decide +kernel
theorem dL_part_55 : decode cL_part 55 = .ok (.goto 6, 3) := by decide +kernel
theorem dL_part_58 : decode cL_part 58 = .ok (.ldc2_w 53, 3) := by decide +kernel
theorem dL_part_61 : decode cL_part 61 = .ok (.land, 1) := by decide +kernel
theorem dL_part_62 : decode cL_part 62 = .ok (.l2i, 1) := by decide +kernel
theorem dL_part_63 : decode cL_part 63 = .ok (.istore_n 3, 1) := by decide +kernel
theorem dL_part_64 : decode cL_part 64 = .ok (.iload_n 2, 1) := by decide +kernel
theorem dL_part_65 : decode cL_part 65 = .ok (.ifCond .ne 10, 3) := by decide +kernel
theorem dL_part_68 : decode cL_part 68 = .ok (.iload_n 3, 1) := by decide +kernel
theorem dL_part_69 : decode cL_part 69 = .ok (.bipush 50, 2) := by decide +kernel
theorem dL_part_71 : decode cL_part 71 = .ok (.isub, 1) := by decide +kernel
theorem dL_part_72 : decode cL_part 72 = .ok (.goto 17, 3) := by decide +kernel
theorem dL_part_75 : decode cL_part 75 = .ok (.iload_n 2, 1) := by decide +kernel
theorem dL_part_76 : decode cL_part 76 = .ok (.iconst 3, 1) := by decide +kernel
theorem dL_part_77 : decode cL_part 77 = .ok (.if_icmp .ne 11, 3) := by decide +kernel
theorem dL_part_80 : decode cL_part 80 = .ok (.sipush 200, 3) := by decide +kernel
theorem dL_part_83 : decode cL_part 83 = .ok (.iload_n 3, 1) := by decide +kernel
theorem dL_part_84 : decode cL_part 84 = .ok (.isub, 1) := by decide +kernel
theorem dL_part_85 : decode cL_part 85 = .ok (.goto 4, 3) := by decide +kernel
theorem dL_part_88 : decode cL_part 88 = .ok (.iload_n 3, 1) := by decide +kernel
theorem dL_part_89 : decode cL_part 89 = .ok (.ireturn, 1) := by decide +kernel
theorem dL_size_0 : decode cL_size 0 = .ok (.sipush 1000, 3) := by decide +kernel
theorem dL_size_3 : decode cL_size 3 = .ok (.lload_n 0, 1) := by decide +kernel
theorem dL_size_4 : decode cL_size 4 = .ok (.ldc2_w 9, 3) := by decide +kernel
theorem dL_size_7 : decode cL_size 7 = .ok (.land, 1) := by decide +kernel
theorem dL_size_8 : decode cL_size 8 = .ok (.l2i, 1) := by decide +kernel
theorem dL_size_9 : decode cL_size 9 = .ok (.imul, 1) := by decide +kernel
theorem dL_size_10 : decode cL_size 10 = .ok (.lload_n 0, 1) := by decide +kernel
theorem dL_size_11 : decode cL_size 11 = .ok (.iconst 0, 1) := by decide +kernel
theorem dL_size_12 : decode cL_size 12 = .ok (.invokestatic 55, 3) := by decide +kernel
theorem dL_size_15 : decode cL_size 15 = .ok (.iadd, 1) := by decide +kernel
theorem dL_size_16 : decode cL_size 16 = .ok (.lload_n 0, 1) := by decide +kernel
theorem dL_size_17 : decode cL_size 17 = .ok (.iconst 1, 1) := by decide +kernel
theorem dL_size_18 : decode cL_size 18 = .ok (.invokestatic 55, 3) := by decide +kernel
theorem dL_size_21 : decode cL_size 21 = .ok (.iadd, 1) := by decide +kernel
theorem dL_size_22 : decode cL_size 22 = .ok (.lload_n 0, 1) := by decide +kernel
theorem dL_size_23 : decode cL_size 23 = .ok (.iconst 2, 1) := by decide +kernel
theorem dL_size_24 : decode cL_size 24 = .ok (.invokestatic 55, 3) := by decide +kernel
theorem dL_size_27 : decode cL_size 27 = .ok (.iadd, 1) := by decide +kernel
theorem dL_size_28 : decode cL_size 28 = .ok (.lload_n 0, 1) := by decide +kernel
theorem dL_size_29 : decode cL_size 29 = .ok (.iconst 3, 1) := by decide +kernel
theorem dL_size_30 : decode cL_size 30 = .ok (.invokestatic 55, 3) := by decide +kernel
theorem dL_size_33 : decode cL_size 33 = .ok (.iadd, 1) := by decide +kernel
theorem dL_size_34 : decode cL_size 34 = .ok (.ireturn, 1) := by decide +kernel
theorem dL_plain_0 : decode cL_plain 0 = .ok (.iload_n 0, 1) := by decide +kernel
theorem dL_plain_1 : decode cL_plain 1 = .ok (.ifCond .ge 8, 3) := by decide +kernel
theorem dL_plain_4 : decode cL_plain 4 = .ok (.iload_n 0, 1) := by decide +kernel
theorem dL_plain_5 : decode cL_plain 5 = .ok (.ineg, 1) := by decide +kernel
theorem dL_plain_6 : decode cL_plain 6 = .ok (.goto 4, 3) := by decide +kernel
theorem dL_plain_9 : decode cL_plain 9 = .ok (.iload_n 0, 1) := by decide +kernel
theorem dL_plain_10 : decode cL_plain 10 = .ok (.ireturn, 1) := by decide +kernel
theorem dL_cause_0 : decode cL_cause 0 = .ok (.iconst 3, 1) := by decide +kernel
theorem dL_cause_1 : decode cL_cause 1 = .ok (.istore_n 2, 1) := by decide +kernel
theorem dL_cause_2 : decode cL_cause 2 = .ok (.iconst 2, 1) := by decide +kernel
theorem dL_cause_3 : decode cL_cause 3 = .ok (.istore_n 3, 1) := by decide +kernel
theorem dL_cause_4 : decode cL_cause 4 = .ok (.iload_n 3, 1) := by decide +kernel
theorem dL_cause_5 : decode cL_cause 5 = .ok (.ifCond .lt 34, 3) := by decide +kernel
theorem dL_cause_8 : decode cL_cause 8 = .ok (.lload_n 0, 1) := by decide +kernel
theorem dL_cause_9 : decode cL_cause 9 = .ok (.iload_n 3, 1) := by decide +kernel
theorem dL_cause_10 : decode cL_cause 10 = .ok (.invokestatic 55, 3) := by decide +kernel
theorem dL_cause_13 : decode cL_cause 13 = .ok (.invokestatic 59, 3) := by decide +kernel
theorem dL_cause_16 : decode cL_cause 16 = .ok (.lload_n 0, 1) := by decide +kernel
theorem dL_cause_17 : decode cL_cause 17 = .ok (.iload_n 2, 1) := by decide +kernel
theorem dL_cause_18 : decode cL_cause 18 = .ok (.invokestatic 55, 3) := by decide +kernel
theorem dL_cause_21 : decode cL_cause 21 = .ok (.invokestatic 59, 3) := by decide +kernel
theorem dL_cause_24 : decode cL_cause 24 = .ok (.if_icmp .lt 7, 3) := by decide +kernel
theorem dL_cause_27 : decode cL_cause 27 = .ok (.iload_n 3, 1) := by decide +kernel
theorem dL_cause_28 : decode cL_cause 28 = .ok (.goto 4, 3) := by decide +kernel
theorem dL_cause_31 : decode cL_cause 31 = .ok (.iload_n 2, 1) := by decide +kernel
theorem dL_cause_32 : decode cL_cause 32 = .ok (.istore_n 2, 1) := by decide +kernel
theorem dL_cause_33 : decode cL_cause 33 = .ok (.iinc 3 (-1), 3) := by decide +kernel
theorem dL_cause_36 : decode cL_cause 36 = .ok (.goto (-32), 3) := by decide +kernel
theorem dL_cause_39 : decode cL_cause 39 = .ok (.lload_n 0, 1) := by decide +kernel
theorem dL_cause_40 : decode cL_cause 40 = .ok (.iload_n 2, 1) := by decide +kernel
theorem dL_cause_41 : decode cL_cause 41 = .ok (.invokestatic 55, 3) := by decide +kernel
theorem dL_cause_44 : decode cL_cause 44 = .ok (.ifCond .ne 7, 3) := by decide +kernel
theorem dL_cause_47 : decode cL_cause 47 = .ok (.iconst (-1), 1) := by decide +kernel
theorem dL_cause_48 : decode cL_cause 48 = .ok (.goto 4, 3) := by decide +kernel
theorem dL_cause_51 : decode cL_cause 51 = .ok (.iload_n 2, 1) := by decide +kernel
theorem dL_cause_52 : decode cL_cause 52 = .ok (.ireturn, 1) := by decide +kernel
theorem dL_isJudged_0 : decode cL_isJudged 0 = .ok (.aload 4, 2) := by decide +kernel
theorem dL_isJudged_2 : decode cL_isJudged 2 = .ok (.iconst 4, 1) := by decide +kernel
theorem dL_isJudged_3 : decode cL_isJudged 3 = .ok (.iload 5, 2) := by decide +kernel
theorem dL_isJudged_5 : decode cL_isJudged 5 = .ok (.imul, 1) := by decide +kernel
theorem dL_isJudged_6 : decode cL_isJudged 6 = .ok (.iaload, 1) := by decide +kernel
theorem dL_isJudged_7 : decode cL_isJudged 7 = .ok (.iconst 2, 1) := by decide +kernel
theorem dL_isJudged_8 : decode cL_isJudged 8 = .ok (.if_icmp .ne 31, 3) := by decide +kernel
theorem dL_isJudged_11 : decode cL_isJudged 11 = .ok (.aload_n 3, 1) := by decide +kernel
theorem dL_isJudged_12 : decode cL_isJudged 12 = .ok (.iconst 2, 1) := by decide +kernel
theorem dL_isJudged_13 : decode cL_isJudged 13 = .ok (.iaload, 1) := by decide +kernel
theorem dL_isJudged_14 : decode cL_isJudged 14 = .ok (.ifCond .eq 25, 3) := by decide +kernel
theorem dL_isJudged_17 : decode cL_isJudged 17 = .ok (.aload_n 3, 1) := by decide +kernel
theorem dL_isJudged_18 : decode cL_isJudged 18 = .ok (.iconst 0, 1) := by decide +kernel
theorem dL_isJudged_19 : decode cL_isJudged 19 = .ok (.iaload, 1) := by decide +kernel
theorem dL_isJudged_20 : decode cL_isJudged 20 = .ok (.aload_n 3, 1) := by decide +kernel
theorem dL_isJudged_21 : decode cL_isJudged 21 = .ok (.iconst 2, 1) := by decide +kernel
theorem dL_isJudged_22 : decode cL_isJudged 22 = .ok (.iaload, 1) := by decide +kernel
theorem dL_isJudged_23 : decode cL_isJudged 23 = .ok (.sipush 998, 3) := by decide +kernel
theorem dL_isJudged_26 : decode cL_isJudged 26 = .ok (.iadd, 1) := by decide +kernel
theorem dL_isJudged_27 : decode cL_isJudged 27 = .ok (.if_icmp .gt 12, 3) := by decide +kernel
theorem dL_isJudged_30 : decode cL_isJudged 30 = .ok (.aload_n 3, 1) := by decide +kernel
theorem dL_isJudged_31 : decode cL_isJudged 31 = .ok (.bipush 28, 2) := by decide +kernel
theorem dL_isJudged_33 : decode cL_isJudged 33 = .ok (.iaload, 1) := by decide +kernel
theorem dL_isJudged_34 : decode cL_isJudged 34 = .ok (.bipush 30, 2) := by decide +kernel
theorem dL_isJudged_36 : decode cL_isJudged 36 = .ok (.if_icmp .ne 5, 3) := by decide +kernel
theorem dL_isJudged_39 : decode cL_isJudged 39 = .ok (.iconst 1, 1) := by decide +kernel
theorem dL_isJudged_40 : decode cL_isJudged 40 = .ok (.ireturn, 1) := by decide +kernel
theorem dL_isJudged_41 : decode cL_isJudged 41 = .ok (.iconst 0, 1) := by decide +kernel
theorem dL_isJudged_42 : decode cL_isJudged 42 = .ok (.istore 6, 2) := by decide +kernel
theorem dL_isJudged_44 : decode cL_isJudged 44 = .ok (.iconst 0, 1) := by decide +kernel
theorem dL_isJudged_45 : decode cL_isJudged 45 = .ok (.istore 7, 2) := by decide +kernel
theorem dL_isJudged_47 : decode cL_isJudged 47 = .ok (.iload 7, 2) := by decide +kernel
theorem dL_isJudged_49 : decode cL_isJudged 49 = .ok (.iconst 2, 1) := by decide +kernel
theorem dL_isJudged_50 : decode cL_isJudged 50 = .ok (.if_icmp .ge 278, 3) := by decide +kernel
theorem dL_isJudged_53 : decode cL_isJudged 53 = .ok (.bipush 16, 2) := by decide +kernel
theorem dL_isJudged_55 : decode cL_isJudged 55 = .ok (.bipush 6, 2) := by decide +kernel
theorem dL_isJudged_57 : decode cL_isJudged 57 = .ok (.iload 7, 2) := by decide +kernel
theorem dL_isJudged_59 : decode cL_isJudged 59 = .ok (.imul, 1) := by decide +kernel
theorem dL_isJudged_60 : decode cL_isJudged 60 = .ok (.iadd, 1) := by decide +kernel
theorem dL_isJudged_61 : decode cL_isJudged 61 = .ok (.istore 8, 2) := by decide +kernel
theorem dL_isJudged_63 : decode cL_isJudged 63 = .ok (.aload_n 1, 1) := by decide +kernel
theorem dL_isJudged_64 : decode cL_isJudged 64 = .ok (.bipush 12, 2) := by decide +kernel
theorem dL_isJudged_66 : decode cL_isJudged 66 = .ok (.aload_n 3, 1) := by decide +kernel
theorem dL_isJudged_67 : decode cL_isJudged 67 = .ok (.iload 8, 2) := by decide +kernel
theorem dL_isJudged_69 : decode cL_isJudged 69 = .ok (.iconst 1, 1) := by decide +kernel
theorem dL_isJudged_70 : decode cL_isJudged 70 = .ok (.iadd, 1) := by decide +kernel
theorem dL_isJudged_71 : decode cL_isJudged 71 = .ok (.iaload, 1) := by decide +kernel
theorem dL_isJudged_72 : decode cL_isJudged 72 = .ok (.imul, 1) := by decide +kernel
theorem dL_isJudged_73 : decode cL_isJudged 73 = .ok (.aload_n 3, 1) := by decide +kernel
theorem dL_isJudged_74 : decode cL_isJudged 74 = .ok (.iload 8, 2) := by decide +kernel
theorem dL_isJudged_76 : decode cL_isJudged 76 = .ok (.iaload, 1) := by decide +kernel
theorem dL_isJudged_77 : decode cL_isJudged 77 = .ok (.iadd, 1) := by decide +kernel
theorem dL_isJudged_78 : decode cL_isJudged 78 = .ok (.laload, 1) := by decide +kernel
theorem dL_isJudged_79 : decode cL_isJudged 79 = .ok (.lstore 9, 2) := by decide +kernel
theorem dL_isJudged_81 : decode cL_isJudged 81 = .ok (.lload 9, 2) := by decide +kernel
theorem dL_isJudged_83 : decode cL_isJudged 83 = .ok (.invokestatic 63, 3) := by decide +kernel
theorem dL_isJudged_86 : decode cL_isJudged 86 = .ok (.aload_n 3, 1) := by decide +kernel
theorem dL_isJudged_87 : decode cL_isJudged 87 = .ok (.iconst 0, 1) := by decide +kernel
theorem dL_isJudged_88 : decode cL_isJudged 88 = .ok (.iaload, 1) := by decide +kernel
theorem dL_isJudged_89 : decode cL_isJudged 89 = .ok (.aload_n 3, 1) := by decide +kernel
theorem dL_isJudged_90 : decode cL_isJudged 90 = .ok (.iconst 2, 1) := by decide +kernel
theorem dL_isJudged_91 : decode cL_isJudged 91 = .ok (.iaload, 1) := by decide +kernel
theorem dL_isJudged_92 : decode cL_isJudged 92 = .ok (.isub, 1) := by decide +kernel
theorem dL_isJudged_93 : decode cL_isJudged 93 = .ok (.iconst 1, 1) := by decide +kernel
theorem dL_isJudged_94 : decode cL_isJudged 94 = .ok (.iadd, 1) := by decide +kernel
theorem dL_isJudged_95 : decode cL_isJudged 95 = .ok (.bipush 100, 2) := by decide +kernel
theorem dL_isJudged_97 : decode cL_isJudged 97 = .ok (.idiv, 1) := by decide +kernel
theorem dL_isJudged_98 : decode cL_isJudged 98 = .ok (.iadd, 1) := by decide +kernel
theorem dL_isJudged_99 : decode cL_isJudged 99 = .ok (.sipush 1000, 3) := by decide +kernel
theorem dL_isJudged_102 : decode cL_isJudged 102 = .ok (.aload_n 3, 1) := by decide +kernel
theorem dL_isJudged_103 : decode cL_isJudged 103 = .ok (.iload 8, 2) := by decide +kernel
theorem dL_isJudged_105 : decode cL_isJudged 105 = .ok (.iconst 2, 1) := by decide +kernel
theorem dL_isJudged_106 : decode cL_isJudged 106 = .ok (.iadd, 1) := by decide +kernel
theorem dL_isJudged_107 : decode cL_isJudged 107 = .ok (.iaload, 1) := by decide +kernel
theorem dL_isJudged_108 : decode cL_isJudged 108 = .ok (.imul, 1) := by decide +kernel
theorem dL_isJudged_109 : decode cL_isJudged 109 = .ok (.isub, 1) := by decide +kernel
theorem dL_isJudged_110 : decode cL_isJudged 110 = .ok (.istore 11, 2) := by decide +kernel
theorem dL_isJudged_112 : decode cL_isJudged 112 = .ok (.aload_n 3, 1) := by decide +kernel
theorem dL_isJudged_113 : decode cL_isJudged 113 = .ok (.iload 8, 2) := by decide +kernel
theorem dL_isJudged_115 : decode cL_isJudged 115 = .ok (.iconst 3, 1) := by decide +kernel
theorem dL_isJudged_116 : decode cL_isJudged 116 = .ok (.iadd, 1) := by decide +kernel
theorem dL_isJudged_117 : decode cL_isJudged 117 = .ok (.iaload, 1) := by decide +kernel
theorem dL_isJudged_118 : decode cL_isJudged 118 = .ok (.aload_n 3, 1) := by decide +kernel
theorem dL_isJudged_119 : decode cL_isJudged 119 = .ok (.iload 8, 2) := by decide +kernel
theorem dL_isJudged_121 : decode cL_isJudged 121 = .ok (.iconst 5, 1) := by decide +kernel
theorem dL_isJudged_122 : decode cL_isJudged 122 = .ok (.iadd, 1) := by decide +kernel
theorem dL_isJudged_123 : decode cL_isJudged 123 = .ok (.iaload, 1) := by decide +kernel
theorem dL_isJudged_124 : decode cL_isJudged 124 = .ok (.ifCond .le 12, 3) := by decide +kernel
theorem dL_isJudged_127 : decode cL_isJudged 127 = .ok (.aload_n 3, 1) := by decide +kernel
theorem dL_isJudged_128 : decode cL_isJudged 128 = .ok (.iload 8, 2) := by decide +kernel
theorem dL_isJudged_130 : decode cL_isJudged 130 = .ok (.iconst 4, 1) := by decide +kernel
theorem dL_isJudged_131 : decode cL_isJudged 131 = .ok (.iadd, 1) := by decide +kernel
theorem dL_isJudged_132 : decode cL_isJudged 132 = .ok (.iaload, 1) := by decide +kernel
theorem dL_isJudged_133 : decode cL_isJudged 133 = .ok (.goto 4, 3) := by decide +kernel
theorem dL_isJudged_136 : decode cL_isJudged 136 = .ok (.iconst 0, 1) := by decide +kernel
theorem dL_isJudged_137 : decode cL_isJudged 137 = .ok (.iadd, 1) := by decide +kernel
theorem dL_isJudged_138 : decode cL_isJudged 138 = .ok (.istore 12, 2) := by decide +kernel
theorem dL_isJudged_140 : decode cL_isJudged 140 = .ok (.aload_n 3, 1) := by decide +kernel
theorem dL_isJudged_141 : decode cL_isJudged 141 = .ok (.iload 8, 2) := by decide +kernel
theorem dL_isJudged_143 : decode cL_isJudged 143 = .ok (.iconst 5, 1) := by decide +kernel
theorem dL_isJudged_144 : decode cL_isJudged 144 = .ok (.iadd, 1) := by decide +kernel
theorem dL_isJudged_145 : decode cL_isJudged 145 = .ok (.aload_n 3, 1) := by decide +kernel
theorem dL_isJudged_146 : decode cL_isJudged 146 = .ok (.iload 8, 2) := by decide +kernel
theorem dL_isJudged_148 : decode cL_isJudged 148 = .ok (.iconst 5, 1) := by decide +kernel
theorem dL_isJudged_149 : decode cL_isJudged 149 = .ok (.iadd, 1) := by decide +kernel
theorem dL_isJudged_150 : decode cL_isJudged 150 = .ok (.iaload, 1) := by decide +kernel
theorem dL_isJudged_151 : decode cL_isJudged 151 = .ok (.ifCond .le 14, 3) := by decide +kernel
theorem dL_isJudged_154 : decode cL_isJudged 154 = .ok (.aload_n 3, 1) := by decide +kernel
theorem dL_isJudged_155 : decode cL_isJudged 155 = .ok (.iload 8, 2) := by decide +kernel
theorem dL_isJudged_157 : decode cL_isJudged 157 = .ok (.iconst 5, 1) := by decide +kernel
theorem dL_isJudged_158 : decode cL_isJudged 158 = .ok (.iadd, 1) := by decide +kernel
theorem dL_isJudged_159 : decode cL_isJudged 159 = .ok (.iaload, 1) := by decide +kernel
theorem dL_isJudged_160 : decode cL_isJudged 160 = .ok (.iconst 1, 1) := by decide +kernel
theorem dL_isJudged_161 : decode cL_isJudged 161 = .ok (.isub, 1) := by decide +kernel
theorem dL_isJudged_162 : decode cL_isJudged 162 = .ok (.goto 4, 3) := by decide +kernel
theorem dL_isJudged_165 : decode cL_isJudged 165 = .ok (.iconst 0, 1) := by decide +kernel
theorem dL_isJudged_166 : decode cL_isJudged 166 = .ok (.iastore, 1) := by decide +kernel
theorem dL_isJudged_167 : decode cL_isJudged 167 = .ok (.aload_n 3, 1) := by decide +kernel
theorem dL_isJudged_168 : decode cL_isJudged 168 = .ok (.bipush 33, 2) := by decide +kernel
theorem dL_isJudged_170 : decode cL_isJudged 170 = .ok (.iload 7, 2) := by decide +kernel
theorem dL_isJudged_172 : decode cL_isJudged 172 = .ok (.iadd, 1) := by decide +kernel
theorem dL_isJudged_173 : decode cL_isJudged 173 = .ok (.iload 11, 2) := by decide +kernel
theorem dL_isJudged_175 : decode cL_isJudged 175 = .ok (.iastore, 1) := by decide +kernel
theorem dL_isJudged_176 : decode cL_isJudged 176 = .ok (.aload_n 3, 1) := by decide +kernel
theorem dL_isJudged_177 : decode cL_isJudged 177 = .ok (.bipush 35, 2) := by decide +kernel
theorem dL_isJudged_179 : decode cL_isJudged 179 = .ok (.iload 7, 2) := by decide +kernel
theorem dL_isJudged_181 : decode cL_isJudged 181 = .ok (.iadd, 1) := by decide +kernel
theorem dL_isJudged_182 : decode cL_isJudged 182 = .ok (.iload 12, 2) := by decide +kernel
theorem dL_isJudged_184 : decode cL_isJudged 184 = .ok (.iastore, 1) := by decide +kernel
theorem dL_isJudged_185 : decode cL_isJudged 185 = .ok (.iload 11, 2) := by decide +kernel
theorem dL_isJudged_187 : decode cL_isJudged 187 = .ok (.invokestatic 59, 3) := by decide +kernel
theorem dL_isJudged_190 : decode cL_isJudged 190 = .ok (.iload 12, 2) := by decide +kernel
theorem dL_isJudged_192 : decode cL_isJudged 192 = .ok (.aload_n 3, 1) := by decide +kernel
theorem dL_isJudged_193 : decode cL_isJudged 193 = .ok (.iconst 3, 1) := by decide +kernel
theorem dL_isJudged_194 : decode cL_isJudged 194 = .ok (.iaload, 1) := by decide +kernel
theorem dL_isJudged_195 : decode cL_isJudged 195 = .ok (.iadd, 1) := by decide +kernel
theorem dL_isJudged_196 : decode cL_isJudged 196 = .ok (.if_icmp .le 7, 3) := by decide +kernel
theorem dL_isJudged_199 : decode cL_isJudged 199 = .ok (.iconst 2, 1) := by decide +kernel
theorem dL_isJudged_200 : decode cL_isJudged 200 = .ok (.goto 22, 3) := by decide +kernel
theorem dL_isJudged_203 : decode cL_isJudged 203 = .ok (.iload 11, 2) := by decide +kernel
theorem dL_isJudged_205 : decode cL_isJudged 205 = .ok (.invokestatic 59, 3) := by decide +kernel
theorem dL_isJudged_208 : decode cL_isJudged 208 = .ok (.aload_n 3, 1) := by decide +kernel
theorem dL_isJudged_209 : decode cL_isJudged 209 = .ok (.iconst 3, 1) := by decide +kernel
theorem dL_isJudged_210 : decode cL_isJudged 210 = .ok (.iaload, 1) := by decide +kernel
theorem dL_isJudged_211 : decode cL_isJudged 211 = .ok (.iadd, 1) := by decide +kernel
theorem dL_isJudged_212 : decode cL_isJudged 212 = .ok (.iload 12, 2) := by decide +kernel
theorem dL_isJudged_214 : decode cL_isJudged 214 = .ok (.if_icmp .le 7, 3) := by decide +kernel
theorem dL_isJudged_217 : decode cL_isJudged 217 = .ok (.iconst 1, 1) := by decide +kernel
theorem dL_isJudged_218 : decode cL_isJudged 218 = .ok (.goto 4, 3) := by decide +kernel
theorem dL_isJudged_221 : decode cL_isJudged 221 = .ok (.iconst 0, 1) := by decide +kernel
theorem dL_isJudged_222 : decode cL_isJudged 222 = .ok (.istore 13, 2) := by decide +kernel
theorem dL_isJudged_224 : decode cL_isJudged 224 = .ok (.iload 13, 2) := by decide +kernel
theorem dL_isJudged_226 : decode cL_isJudged 226 = .ok (.iload 6, 2) := by decide +kernel
theorem dL_isJudged_228 : decode cL_isJudged 228 = .ok (.if_icmp .le 8, 3) := by decide +kernel
theorem dL_isJudged_231 : decode cL_isJudged 231 = .ok (.iload 13, 2) := by decide +kernel
theorem dL_isJudged_233 : decode cL_isJudged 233 = .ok (.goto 5, 3) := by decide +kernel
theorem dL_isJudged_236 : decode cL_isJudged 236 = .ok (.iload 6, 2) := by decide +kernel
theorem dL_isJudged_238 : decode cL_isJudged 238 = .ok (.istore 6, 2) := by decide +kernel
theorem dL_isJudged_240 : decode cL_isJudged 240 = .ok (.lload 9, 2) := by decide +kernel
theorem dL_isJudged_242 : decode cL_isJudged 242 = .ok (.iconst 4, 1) := by decide +kernel
theorem dL_isJudged_243 : decode cL_isJudged 243 = .ok (.lshr, 1) := by decide +kernel
theorem dL_isJudged_244 : decode cL_isJudged 244 = .ok (.ldc2_w 49, 3) := by decide +kernel
theorem dL_isJudged_247 : decode cL_isJudged 247 = .ok (.land, 1) := by decide +kernel
theorem dL_isJudged_248 : decode cL_isJudged 248 = .ok (.l2i, 1) := by decide +kernel
theorem dL_isJudged_249 : decode cL_isJudged 249 = .ok (.iconst 1, 1) := by decide +kernel
theorem dL_isJudged_250 : decode cL_isJudged 250 = .ok (.isub, 1) := by decide +kernel
theorem dL_isJudged_251 : decode cL_isJudged 251 = .ok (.istore 14, 2) := by decide +kernel
theorem dL_isJudged_253 : decode cL_isJudged 253 = .ok (.iload 14, 2) := by decide +kernel
theorem dL_isJudged_255 : decode cL_isJudged 255 = .ok (.ifCond .lt 67, 3) := by decide +kernel
theorem dL_isJudged_258 : decode cL_isJudged 258 = .ok (.aload_n 2, 1) := by decide +kernel
theorem dL_isJudged_259 : decode cL_isJudged 259 = .ok (.bipush 9, 2) := by decide +kernel
theorem dL_isJudged_261 : decode cL_isJudged 261 = .ok (.iload 14, 2) := by decide +kernel
theorem dL_isJudged_263 : decode cL_isJudged 263 = .ok (.imul, 1) := by decide +kernel
theorem dL_isJudged_264 : decode cL_isJudged 264 = .ok (.bipush 7, 2) := by decide +kernel
theorem dL_isJudged_266 : decode cL_isJudged 266 = .ok (.iadd, 1) := by decide +kernel
theorem dL_isJudged_267 : decode cL_isJudged 267 = .ok (.aload_n 2, 1) := by decide +kernel
theorem dL_isJudged_268 : decode cL_isJudged 268 = .ok (.bipush 9, 2) := by decide +kernel
theorem dL_isJudged_270 : decode cL_isJudged 270 = .ok (.iload 14, 2) := by decide +kernel
theorem dL_isJudged_272 : decode cL_isJudged 272 = .ok (.imul, 1) := by decide +kernel
theorem dL_isJudged_273 : decode cL_isJudged 273 = .ok (.bipush 6, 2) := by decide +kernel
theorem dL_isJudged_275 : decode cL_isJudged 275 = .ok (.iadd, 1) := by decide +kernel
theorem dL_isJudged_276 : decode cL_isJudged 276 = .ok (.iaload, 1) := by decide +kernel
theorem dL_isJudged_277 : decode cL_isJudged 277 = .ok (.iastore, 1) := by decide +kernel
theorem dL_isJudged_278 : decode cL_isJudged 278 = .ok (.aload_n 2, 1) := by decide +kernel
theorem dL_isJudged_279 : decode cL_isJudged 279 = .ok (.bipush 9, 2) := by decide +kernel
theorem dL_isJudged_281 : decode cL_isJudged 281 = .ok (.iload 14, 2) := by decide +kernel
theorem dL_isJudged_283 : decode cL_isJudged 283 = .ok (.imul, 1) := by decide +kernel
theorem dL_isJudged_284 : decode cL_isJudged 284 = .ok (.bipush 6, 2) := by decide +kernel
theorem dL_isJudged_286 : decode cL_isJudged 286 = .ok (.iadd, 1) := by decide +kernel
theorem dL_isJudged_287 : decode cL_isJudged 287 = .ok (.aload_n 2, 1) := by decide +kernel
theorem dL_isJudged_288 : decode cL_isJudged 288 = .ok (.bipush 9, 2) := by decide +kernel
theorem dL_isJudged_290 : decode cL_isJudged 290 = .ok (.iload 14, 2) := by decide +kernel
theorem dL_isJudged_292 : decode cL_isJudged 292 = .ok (.imul, 1) := by decide +kernel
theorem dL_isJudged_293 : decode cL_isJudged 293 = .ok (.iconst 5, 1) := by decide +kernel
theorem dL_isJudged_294 : decode cL_isJudged 294 = .ok (.iadd, 1) := by decide +kernel
theorem dL_isJudged_295 : decode cL_isJudged 295 = .ok (.iaload, 1) := by decide +kernel
theorem dL_isJudged_296 : decode cL_isJudged 296 = .ok (.iastore, 1) := by decide +kernel
theorem dL_isJudged_297 : decode cL_isJudged 297 = .ok (.aload_n 2, 1) := by decide +kernel
theorem dL_isJudged_298 : decode cL_isJudged 298 = .ok (.bipush 9, 2) := by decide +kernel
theorem dL_isJudged_300 : decode cL_isJudged 300 = .ok (.iload 14, 2) := by decide +kernel
theorem dL_isJudged_302 : decode cL_isJudged 302 = .ok (.imul, 1) := by decide +kernel
theorem dL_isJudged_303 : decode cL_isJudged 303 = .ok (.iconst 5, 1) := by decide +kernel
theorem dL_isJudged_304 : decode cL_isJudged 304 = .ok (.iadd, 1) := by decide +kernel
theorem dL_isJudged_305 : decode cL_isJudged 305 = .ok (.iload 11, 2) := by decide +kernel
theorem dL_isJudged_307 : decode cL_isJudged 307 = .ok (.iastore, 1) := by decide +kernel
theorem dL_isJudged_308 : decode cL_isJudged 308 = .ok (.aload_n 2, 1) := by decide +kernel
theorem dL_isJudged_309 : decode cL_isJudged 309 = .ok (.bipush 9, 2) := by decide +kernel
theorem dL_isJudged_311 : decode cL_isJudged 311 = .ok (.iload 14, 2) := by decide +kernel
theorem dL_isJudged_313 : decode cL_isJudged 313 = .ok (.imul, 1) := by decide +kernel
theorem dL_isJudged_314 : decode cL_isJudged 314 = .ok (.bipush 8, 2) := by decide +kernel
theorem dL_isJudged_316 : decode cL_isJudged 316 = .ok (.iadd, 1) := by decide +kernel
theorem dL_isJudged_317 : decode cL_isJudged 317 = .ok (.dup2, 1) := by decide +kernel
theorem dL_isJudged_318 : decode cL_isJudged 318 = .ok (.iaload, 1) := by decide +kernel
theorem dL_isJudged_319 : decode cL_isJudged 319 = .ok (.iconst 1, 1) := by decide +kernel
theorem dL_isJudged_320 : decode cL_isJudged 320 = .ok (.iadd, 1) := by decide +kernel
theorem dL_isJudged_321 : decode cL_isJudged 321 = .ok (.iastore, 1) := by decide +kernel
theorem dL_isJudged_322 : decode cL_isJudged 322 = .ok (.iinc 7 1, 3) := by decide +kernel
theorem dL_isJudged_325 : decode cL_isJudged 325 = .ok (.goto (-278), 3) := by decide +kernel
theorem dL_isJudged_328 : decode cL_isJudged 328 = .ok (.aload_n 3, 1) := by decide +kernel
theorem dL_isJudged_329 : decode cL_isJudged 329 = .ok (.bipush 29, 2) := by decide +kernel
theorem dL_isJudged_331 : decode cL_isJudged 331 = .ok (.iload 5, 2) := by decide +kernel
theorem dL_isJudged_333 : decode cL_isJudged 333 = .ok (.iastore, 1) := by decide +kernel
theorem dL_isJudged_334 : decode cL_isJudged 334 = .ok (.aload_n 3, 1) := by decide +kernel
theorem dL_isJudged_335 : decode cL_isJudged 335 = .ok (.bipush 30, 2) := by decide +kernel
theorem dL_isJudged_337 : decode cL_isJudged 337 = .ok (.iload 6, 2) := by decide +kernel
theorem dL_isJudged_339 : decode cL_isJudged 339 = .ok (.iastore, 1) := by decide +kernel
theorem dL_isJudged_340 : decode cL_isJudged 340 = .ok (.aload_n 3, 1) := by decide +kernel
theorem dL_isJudged_341 : decode cL_isJudged 341 = .ok (.bipush 31, 2) := by decide +kernel
theorem dL_isJudged_343 : decode cL_isJudged 343 = .ok (.aload_n 3, 1) := by decide +kernel
theorem dL_isJudged_344 : decode cL_isJudged 344 = .ok (.iconst 0, 1) := by decide +kernel
theorem dL_isJudged_345 : decode cL_isJudged 345 = .ok (.iaload, 1) := by decide +kernel
theorem dL_isJudged_346 : decode cL_isJudged 346 = .ok (.iastore, 1) := by decide +kernel
theorem dL_isJudged_347 : decode cL_isJudged 347 = .ok (.aload_n 3, 1) := by decide +kernel
theorem dL_isJudged_348 : decode cL_isJudged 348 = .ok (.bipush 32, 2) := by decide +kernel
theorem dL_isJudged_350 : decode cL_isJudged 350 = .ok (.aload_n 3, 1) := by decide +kernel
theorem dL_isJudged_351 : decode cL_isJudged 351 = .ok (.iconst 3, 1) := by decide +kernel
theorem dL_isJudged_352 : decode cL_isJudged 352 = .ok (.iaload, 1) := by decide +kernel
theorem dL_isJudged_353 : decode cL_isJudged 353 = .ok (.iastore, 1) := by decide +kernel
theorem dL_isJudged_354 : decode cL_isJudged 354 = .ok (.aload_n 3, 1) := by decide +kernel
theorem dL_isJudged_355 : decode cL_isJudged 355 = .ok (.bipush 28, 2) := by decide +kernel
theorem dL_isJudged_357 : decode cL_isJudged 357 = .ok (.dup2, 1) := by decide +kernel
theorem dL_isJudged_358 : decode cL_isJudged 358 = .ok (.iaload, 1) := by decide +kernel
theorem dL_isJudged_359 : decode cL_isJudged 359 = .ok (.iconst 1, 1) := by decide +kernel
theorem dL_isJudged_360 : decode cL_isJudged 360 = .ok (.iadd, 1) := by decide +kernel
theorem dL_isJudged_361 : decode cL_isJudged 361 = .ok (.iastore, 1) := by decide +kernel
theorem dL_isJudged_362 : decode cL_isJudged 362 = .ok (.aload 4, 2) := by decide +kernel
theorem dL_isJudged_364 : decode cL_isJudged 364 = .ok (.iconst 4, 1) := by decide +kernel
theorem dL_isJudged_365 : decode cL_isJudged 365 = .ok (.iload 5, 2) := by decide +kernel
theorem dL_isJudged_367 : decode cL_isJudged 367 = .ok (.imul, 1) := by decide +kernel
theorem dL_isJudged_368 : decode cL_isJudged 368 = .ok (.iconst 3, 1) := by decide +kernel
theorem dL_isJudged_369 : decode cL_isJudged 369 = .ok (.iadd, 1) := by decide +kernel
theorem dL_isJudged_370 : decode cL_isJudged 370 = .ok (.iload 6, 2) := by decide +kernel
theorem dL_isJudged_372 : decode cL_isJudged 372 = .ok (.iastore, 1) := by decide +kernel
theorem dL_isJudged_373 : decode cL_isJudged 373 = .ok (.aload_n 0, 1) := by decide +kernel
theorem dL_isJudged_374 : decode cL_isJudged 374 = .ok (.iload 5, 2) := by decide +kernel
theorem dL_isJudged_376 : decode cL_isJudged 376 = .ok (.iconst 0, 1) := by decide +kernel
theorem dL_isJudged_377 : decode cL_isJudged 377 = .ok (.iconst 2, 1) := by decide +kernel
theorem dL_isJudged_378 : decode cL_isJudged 378 = .ok (.invokevirtual 67, 3) := by decide +kernel
theorem dL_isJudged_381 : decode cL_isJudged 381 = .ok (.aload_n 3, 1) := by decide +kernel
theorem dL_isJudged_382 : decode cL_isJudged 382 = .ok (.bipush 28, 2) := by decide +kernel
theorem dL_isJudged_384 : decode cL_isJudged 384 = .ok (.iaload, 1) := by decide +kernel
theorem dL_isJudged_385 : decode cL_isJudged 385 = .ok (.iconst 1, 1) := by decide +kernel
theorem dL_isJudged_386 : decode cL_isJudged 386 = .ok (.isub, 1) := by decide +kernel
theorem dL_isJudged_387 : decode cL_isJudged 387 = .ok (.if_icmp .ne 22, 3) := by decide +kernel
theorem dL_isJudged_390 : decode cL_isJudged 390 = .ok (.aload_n 0, 1) := by decide +kernel
theorem dL_isJudged_391 : decode cL_isJudged 391 = .ok (.aload_n 3, 1) := by decide +kernel
theorem dL_isJudged_392 : decode cL_isJudged 392 = .ok (.bipush 28, 2) := by decide +kernel
theorem dL_isJudged_394 : decode cL_isJudged 394 = .ok (.iaload, 1) := by decide +kernel
theorem dL_isJudged_395 : decode cL_isJudged 395 = .ok (.iconst 1, 1) := by decide +kernel
theorem dL_isJudged_396 : decode cL_isJudged 396 = .ok (.isub, 1) := by decide +kernel
theorem dL_isJudged_397 : decode cL_isJudged 397 = .ok (.invokevirtual 73, 3) := by decide +kernel
theorem dL_isJudged_400 : decode cL_isJudged 400 = .ok (.iload 6, 2) := by decide +kernel
theorem dL_isJudged_402 : decode cL_isJudged 402 = .ok (.if_icmp .ne 7, 3) := by decide +kernel
theorem dL_isJudged_405 : decode cL_isJudged 405 = .ok (.iconst 1, 1) := by decide +kernel
theorem dL_isJudged_406 : decode cL_isJudged 406 = .ok (.goto 4, 3) := by decide +kernel
theorem dL_isJudged_409 : decode cL_isJudged 409 = .ok (.iconst 0, 1) := by decide +kernel
theorem dL_isJudged_410 : decode cL_isJudged 410 = .ok (.ireturn, 1) := by decide +kernel
theorem dL_corrected_0 : decode cL_corrected 0 = .ok (.bipush 9, 2) := by decide +kernel
theorem dL_corrected_2 : decode cL_corrected 2 = .ok (.iload_n 1, 1) := by decide +kernel
theorem dL_corrected_3 : decode cL_corrected 3 = .ok (.imul, 1) := by decide +kernel
theorem dL_corrected_4 : decode cL_corrected 4 = .ok (.istore_n 2, 1) := by decide +kernel
theorem dL_corrected_5 : decode cL_corrected 5 = .ok (.aload_n 0, 1) := by decide +kernel
theorem dL_corrected_6 : decode cL_corrected 6 = .ok (.iload_n 2, 1) := by decide +kernel
theorem dL_corrected_7 : decode cL_corrected 7 = .ok (.iconst 5, 1) := by decide +kernel
theorem dL_corrected_8 : decode cL_corrected 8 = .ok (.iadd, 1) := by decide +kernel
theorem dL_corrected_9 : decode cL_corrected 9 = .ok (.iaload, 1) := by decide +kernel
theorem dL_corrected_10 : decode cL_corrected 10 = .ok (.aload_n 0, 1) := by decide +kernel
theorem dL_corrected_11 : decode cL_corrected 11 = .ok (.iload_n 2, 1) := by decide +kernel
theorem dL_corrected_12 : decode cL_corrected 12 = .ok (.bipush 6, 2) := by decide +kernel
theorem dL_corrected_14 : decode cL_corrected 14 = .ok (.iadd, 1) := by decide +kernel
theorem dL_corrected_15 : decode cL_corrected 15 = .ok (.iaload, 1) := by decide +kernel
theorem dL_corrected_16 : decode cL_corrected 16 = .ok (.if_icmp .ge 11, 3) := by decide +kernel
theorem dL_corrected_19 : decode cL_corrected 19 = .ok (.aload_n 0, 1) := by decide +kernel
theorem dL_corrected_20 : decode cL_corrected 20 = .ok (.iload_n 2, 1) := by decide +kernel
theorem dL_corrected_21 : decode cL_corrected 21 = .ok (.iconst 5, 1) := by decide +kernel
theorem dL_corrected_22 : decode cL_corrected 22 = .ok (.iadd, 1) := by decide +kernel
theorem dL_corrected_23 : decode cL_corrected 23 = .ok (.iaload, 1) := by decide +kernel
theorem dL_corrected_24 : decode cL_corrected 24 = .ok (.goto 9, 3) := by decide +kernel
theorem dL_corrected_27 : decode cL_corrected 27 = .ok (.aload_n 0, 1) := by decide +kernel
theorem dL_corrected_28 : decode cL_corrected 28 = .ok (.iload_n 2, 1) := by decide +kernel
theorem dL_corrected_29 : decode cL_corrected 29 = .ok (.bipush 6, 2) := by decide +kernel
theorem dL_corrected_31 : decode cL_corrected 31 = .ok (.iadd, 1) := by decide +kernel
theorem dL_corrected_32 : decode cL_corrected 32 = .ok (.iaload, 1) := by decide +kernel
theorem dL_corrected_33 : decode cL_corrected 33 = .ok (.istore_n 3, 1) := by decide +kernel
theorem dL_corrected_34 : decode cL_corrected 34 = .ok (.aload_n 0, 1) := by decide +kernel
theorem dL_corrected_35 : decode cL_corrected 35 = .ok (.iload_n 2, 1) := by decide +kernel
theorem dL_corrected_36 : decode cL_corrected 36 = .ok (.iconst 5, 1) := by decide +kernel
theorem dL_corrected_37 : decode cL_corrected 37 = .ok (.iadd, 1) := by decide +kernel
theorem dL_corrected_38 : decode cL_corrected 38 = .ok (.iaload, 1) := by decide +kernel
theorem dL_corrected_39 : decode cL_corrected 39 = .ok (.aload_n 0, 1) := by decide +kernel
theorem dL_corrected_40 : decode cL_corrected 40 = .ok (.iload_n 2, 1) := by decide +kernel
theorem dL_corrected_41 : decode cL_corrected 41 = .ok (.bipush 6, 2) := by decide +kernel
theorem dL_corrected_43 : decode cL_corrected 43 = .ok (.iadd, 1) := by decide +kernel
theorem dL_corrected_44 : decode cL_corrected 44 = .ok (.iaload, 1) := by decide +kernel
theorem dL_corrected_45 : decode cL_corrected 45 = .ok (.if_icmp .le 11, 3) := by decide +kernel
theorem dL_corrected_48 : decode cL_corrected 48 = .ok (.aload_n 0, 1) := by decide +kernel
theorem dL_corrected_49 : decode cL_corrected 49 = .ok (.iload_n 2, 1) := by decide +kernel
theorem dL_corrected_50 : decode cL_corrected 50 = .ok (.iconst 5, 1) := by decide +kernel
theorem dL_corrected_51 : decode cL_corrected 51 = .ok (.iadd, 1) := by decide +kernel
theorem dL_corrected_52 : decode cL_corrected 52 = .ok (.iaload, 1) := by decide +kernel
theorem dL_corrected_53 : decode cL_corrected 53 = .ok (.goto 9, 3) := by decide +kernel
theorem dL_corrected_56 : decode cL_corrected 56 = .ok (.aload_n 0, 1) := by decide +kernel
theorem dL_corrected_57 : decode cL_corrected 57 = .ok (.iload_n 2, 1) := by decide +kernel
theorem dL_corrected_58 : decode cL_corrected 58 = .ok (.bipush 6, 2) := by decide +kernel
theorem dL_corrected_60 : decode cL_corrected 60 = .ok (.iadd, 1) := by decide +kernel
theorem dL_corrected_61 : decode cL_corrected 61 = .ok (.iaload, 1) := by decide +kernel
theorem dL_corrected_62 : decode cL_corrected 62 = .ok (.istore 4, 2) := by decide +kernel
theorem dL_corrected_64 : decode cL_corrected 64 = .ok (.iload_n 3, 1) := by decide +kernel
theorem dL_corrected_65 : decode cL_corrected 65 = .ok (.aload_n 0, 1) := by decide +kernel
theorem dL_corrected_66 : decode cL_corrected 66 = .ok (.iload_n 2, 1) := by decide +kernel
theorem dL_corrected_67 : decode cL_corrected 67 = .ok (.bipush 7, 2) := by decide +kernel
theorem dL_corrected_69 : decode cL_corrected 69 = .ok (.iadd, 1) := by decide +kernel
theorem dL_corrected_70 : decode cL_corrected 70 = .ok (.iaload, 1) := by decide +kernel
theorem dL_corrected_71 : decode cL_corrected 71 = .ok (.if_icmp .ge 7, 3) := by decide +kernel
theorem dL_corrected_74 : decode cL_corrected 74 = .ok (.iload_n 3, 1) := by decide +kernel
theorem dL_corrected_75 : decode cL_corrected 75 = .ok (.goto 9, 3) := by decide +kernel
theorem dL_corrected_78 : decode cL_corrected 78 = .ok (.aload_n 0, 1) := by decide +kernel
theorem dL_corrected_79 : decode cL_corrected 79 = .ok (.iload_n 2, 1) := by decide +kernel
theorem dL_corrected_80 : decode cL_corrected 80 = .ok (.bipush 7, 2) := by decide +kernel
theorem dL_corrected_82 : decode cL_corrected 82 = .ok (.iadd, 1) := by decide +kernel
theorem dL_corrected_83 : decode cL_corrected 83 = .ok (.iaload, 1) := by decide +kernel
theorem dL_corrected_84 : decode cL_corrected 84 = .ok (.istore_n 3, 1) := by decide +kernel
theorem dL_corrected_85 : decode cL_corrected 85 = .ok (.iload 4, 2) := by decide +kernel
theorem dL_corrected_87 : decode cL_corrected 87 = .ok (.aload_n 0, 1) := by decide +kernel
theorem dL_corrected_88 : decode cL_corrected 88 = .ok (.iload_n 2, 1) := by decide +kernel
theorem dL_corrected_89 : decode cL_corrected 89 = .ok (.bipush 7, 2) := by decide +kernel
theorem dL_corrected_91 : decode cL_corrected 91 = .ok (.iadd, 1) := by decide +kernel
theorem dL_corrected_92 : decode cL_corrected 92 = .ok (.iaload, 1) := by decide +kernel
theorem dL_corrected_93 : decode cL_corrected 93 = .ok (.if_icmp .le 8, 3) := by decide +kernel
theorem dL_corrected_96 : decode cL_corrected 96 = .ok (.iload 4, 2) := by decide +kernel
theorem dL_corrected_98 : decode cL_corrected 98 = .ok (.goto 9, 3) := by decide +kernel
theorem dL_corrected_101 : decode cL_corrected 101 = .ok (.aload_n 0, 1) := by decide +kernel
theorem dL_corrected_102 : decode cL_corrected 102 = .ok (.iload_n 2, 1) := by decide +kernel
theorem dL_corrected_103 : decode cL_corrected 103 = .ok (.bipush 7, 2) := by decide +kernel
theorem dL_corrected_105 : decode cL_corrected 105 = .ok (.iadd, 1) := by decide +kernel
theorem dL_corrected_106 : decode cL_corrected 106 = .ok (.iaload, 1) := by decide +kernel
theorem dL_corrected_107 : decode cL_corrected 107 = .ok (.istore 4, 2) := by decide +kernel
theorem dL_corrected_109 : decode cL_corrected 109 = .ok (.aload_n 0, 1) := by decide +kernel
theorem dL_corrected_110 : decode cL_corrected 110 = .ok (.iload_n 2, 1) := by decide +kernel
theorem dL_corrected_111 : decode cL_corrected 111 = .ok (.bipush 8, 2) := by decide +kernel
theorem dL_corrected_113 : decode cL_corrected 113 = .ok (.iadd, 1) := by decide +kernel
theorem dL_corrected_114 : decode cL_corrected 114 = .ok (.iaload, 1) := by decide +kernel
theorem dL_corrected_115 : decode cL_corrected 115 = .ok (.iconst 3, 1) := by decide +kernel
theorem dL_corrected_116 : decode cL_corrected 116 = .ok (.if_icmp .lt 12, 3) := by decide +kernel
theorem dL_corrected_119 : decode cL_corrected 119 = .ok (.iload_n 3, 1) := by decide +kernel
theorem dL_corrected_120 : decode cL_corrected 120 = .ok (.ifCond .gt 10, 3) := by decide +kernel
theorem dL_corrected_123 : decode cL_corrected 123 = .ok (.iload 4, 2) := by decide +kernel
theorem dL_corrected_125 : decode cL_corrected 125 = .ok (.ifCond .lt 5, 3) := by decide +kernel
theorem dL_corrected_128 : decode cL_corrected 128 = .ok (.iconst 0, 1) := by decide +kernel
theorem dL_corrected_129 : decode cL_corrected 129 = .ok (.ireturn, 1) := by decide +kernel
theorem dL_corrected_130 : decode cL_corrected 130 = .ok (.aload_n 0, 1) := by decide +kernel
theorem dL_corrected_131 : decode cL_corrected 131 = .ok (.iload_n 2, 1) := by decide +kernel
theorem dL_corrected_132 : decode cL_corrected 132 = .ok (.iconst 3, 1) := by decide +kernel
theorem dL_corrected_133 : decode cL_corrected 133 = .ok (.iadd, 1) := by decide +kernel
theorem dL_corrected_134 : decode cL_corrected 134 = .ok (.iaload, 1) := by decide +kernel
theorem dL_corrected_135 : decode cL_corrected 135 = .ok (.istore 5, 2) := by decide +kernel
theorem dL_corrected_137 : decode cL_corrected 137 = .ok (.aload_n 0, 1) := by decide +kernel
theorem dL_corrected_138 : decode cL_corrected 138 = .ok (.iload_n 2, 1) := by decide +kernel
theorem dL_corrected_139 : decode cL_corrected 139 = .ok (.iconst 5, 1) := by decide +kernel
theorem dL_corrected_140 : decode cL_corrected 140 = .ok (.iadd, 1) := by decide +kernel
theorem dL_corrected_141 : decode cL_corrected 141 = .ok (.iaload, 1) := by decide +kernel
theorem dL_corrected_142 : decode cL_corrected 142 = .ok (.aload_n 0, 1) := by decide +kernel
theorem dL_corrected_143 : decode cL_corrected 143 = .ok (.iload_n 2, 1) := by decide +kernel
theorem dL_corrected_144 : decode cL_corrected 144 = .ok (.bipush 6, 2) := by decide +kernel
theorem dL_corrected_146 : decode cL_corrected 146 = .ok (.iadd, 1) := by decide +kernel
theorem dL_corrected_147 : decode cL_corrected 147 = .ok (.iaload, 1) := by decide +kernel
theorem dL_corrected_148 : decode cL_corrected 148 = .ok (.iadd, 1) := by decide +kernel
theorem dL_corrected_149 : decode cL_corrected 149 = .ok (.aload_n 0, 1) := by decide +kernel
theorem dL_corrected_150 : decode cL_corrected 150 = .ok (.iload_n 2, 1) := by decide +kernel
theorem dL_corrected_151 : decode cL_corrected 151 = .ok (.bipush 7, 2) := by decide +kernel
theorem dL_corrected_153 : decode cL_corrected 153 = .ok (.iadd, 1) := by decide +kernel
theorem dL_corrected_154 : decode cL_corrected 154 = .ok (.iaload, 1) := by decide +kernel
theorem dL_corrected_155 : decode cL_corrected 155 = .ok (.iadd, 1) := by decide +kernel
theorem dL_corrected_156 : decode cL_corrected 156 = .ok (.iconst 3, 1) := by decide +kernel
theorem dL_corrected_157 : decode cL_corrected 157 = .ok (.idiv, 1) := by decide +kernel
theorem dL_corrected_158 : decode cL_corrected 158 = .ok (.istore 6, 2) := by decide +kernel
theorem dL_corrected_160 : decode cL_corrected 160 = .ok (.aload_n 0, 1) := by decide +kernel
theorem dL_corrected_161 : decode cL_corrected 161 = .ok (.iload_n 2, 1) := by decide +kernel
theorem dL_corrected_162 : decode cL_corrected 162 = .ok (.iconst 3, 1) := by decide +kernel
theorem dL_corrected_163 : decode cL_corrected 163 = .ok (.iadd, 1) := by decide +kernel
theorem dL_corrected_164 : decode cL_corrected 164 = .ok (.dup2, 1) := by decide +kernel
theorem dL_corrected_165 : decode cL_corrected 165 = .ok (.iaload, 1) := by decide +kernel
theorem dL_corrected_166 : decode cL_corrected 166 = .ok (.iload 6, 2) := by decide +kernel
theorem dL_corrected_168 : decode cL_corrected 168 = .ok (.iconst 2, 1) := by decide +kernel
theorem dL_corrected_169 : decode cL_corrected 169 = .ok (.idiv, 1) := by decide +kernel
theorem dL_corrected_170 : decode cL_corrected 170 = .ok (.iadd, 1) := by decide +kernel
theorem dL_corrected_171 : decode cL_corrected 171 = .ok (.iastore, 1) := by decide +kernel
theorem dL_corrected_172 : decode cL_corrected 172 = .ok (.aload_n 0, 1) := by decide +kernel
theorem dL_corrected_173 : decode cL_corrected 173 = .ok (.iload_n 2, 1) := by decide +kernel
theorem dL_corrected_174 : decode cL_corrected 174 = .ok (.iconst 3, 1) := by decide +kernel
theorem dL_corrected_175 : decode cL_corrected 175 = .ok (.iadd, 1) := by decide +kernel
theorem dL_corrected_176 : decode cL_corrected 176 = .ok (.aload_n 0, 1) := by decide +kernel
theorem dL_corrected_177 : decode cL_corrected 177 = .ok (.iload_n 2, 1) := by decide +kernel
theorem dL_corrected_178 : decode cL_corrected 178 = .ok (.iconst 3, 1) := by decide +kernel
theorem dL_corrected_179 : decode cL_corrected 179 = .ok (.iadd, 1) := by decide +kernel
theorem dL_corrected_180 : decode cL_corrected 180 = .ok (.iaload, 1) := by decide +kernel
theorem dL_corrected_181 : decode cL_corrected 181 = .ok (.sipush (-200), 3) := by decide +kernel
theorem dL_corrected_184 : decode cL_corrected 184 = .ok (.if_icmp .ge 9, 3) := by decide +kernel
theorem dL_corrected_187 : decode cL_corrected 187 = .ok (.sipush (-200), 3) := by decide +kernel
theorem dL_corrected_190 : decode cL_corrected 190 = .ok (.goto 25, 3) := by decide +kernel
theorem dL_corrected_193 : decode cL_corrected 193 = .ok (.aload_n 0, 1) := by decide +kernel
theorem dL_corrected_194 : decode cL_corrected 194 = .ok (.iload_n 2, 1) := by decide +kernel
theorem dL_corrected_195 : decode cL_corrected 195 = .ok (.iconst 3, 1) := by decide +kernel
theorem dL_corrected_196 : decode cL_corrected 196 = .ok (.iadd, 1) := by decide +kernel
theorem dL_corrected_197 : decode cL_corrected 197 = .ok (.iaload, 1) := by decide +kernel
theorem dL_corrected_198 : decode cL_corrected 198 = .ok (.sipush 200, 3) := by decide +kernel
theorem dL_corrected_201 : decode cL_corrected 201 = .ok (.if_icmp .le 9, 3) := by decide +kernel
theorem dL_corrected_204 : decode cL_corrected 204 = .ok (.sipush 200, 3) := by decide +kernel
theorem dL_corrected_207 : decode cL_corrected 207 = .ok (.goto 8, 3) := by decide +kernel
theorem dL_corrected_210 : decode cL_corrected 210 = .ok (.aload_n 0, 1) := by decide +kernel
theorem dL_corrected_211 : decode cL_corrected 211 = .ok (.iload_n 2, 1) := by decide +kernel
theorem dL_corrected_212 : decode cL_corrected 212 = .ok (.iconst 3, 1) := by decide +kernel
theorem dL_corrected_213 : decode cL_corrected 213 = .ok (.iadd, 1) := by decide +kernel
theorem dL_corrected_214 : decode cL_corrected 214 = .ok (.iaload, 1) := by decide +kernel
theorem dL_corrected_215 : decode cL_corrected 215 = .ok (.iastore, 1) := by decide +kernel
theorem dL_corrected_216 : decode cL_corrected 216 = .ok (.aload_n 0, 1) := by decide +kernel
theorem dL_corrected_217 : decode cL_corrected 217 = .ok (.iload_n 2, 1) := by decide +kernel
theorem dL_corrected_218 : decode cL_corrected 218 = .ok (.bipush 8, 2) := by decide +kernel
theorem dL_corrected_220 : decode cL_corrected 220 = .ok (.iadd, 1) := by decide +kernel
theorem dL_corrected_221 : decode cL_corrected 221 = .ok (.iconst 0, 1) := by decide +kernel
theorem dL_corrected_222 : decode cL_corrected 222 = .ok (.iastore, 1) := by decide +kernel
theorem dL_corrected_223 : decode cL_corrected 223 = .ok (.aload_n 0, 1) := by decide +kernel
theorem dL_corrected_224 : decode cL_corrected 224 = .ok (.iload_n 2, 1) := by decide +kernel
theorem dL_corrected_225 : decode cL_corrected 225 = .ok (.iconst 3, 1) := by decide +kernel
theorem dL_corrected_226 : decode cL_corrected 226 = .ok (.iadd, 1) := by decide +kernel
theorem dL_corrected_227 : decode cL_corrected 227 = .ok (.iaload, 1) := by decide +kernel
theorem dL_corrected_228 : decode cL_corrected 228 = .ok (.iload 5, 2) := by decide +kernel
theorem dL_corrected_230 : decode cL_corrected 230 = .ok (.isub, 1) := by decide +kernel
theorem dL_corrected_231 : decode cL_corrected 231 = .ok (.ireturn, 1) := by decide +kernel
theorem dL_isSame_0 : decode cL_isSame 0 = .ok (.iload 8, 2) := by decide +kernel
theorem dL_isSame_2 : decode cL_isSame 2 = .ok (.iconst 2, 1) := by decide +kernel
theorem dL_isSame_3 : decode cL_isSame 3 = .ok (.irem, 1) := by decide +kernel
theorem dL_isSame_4 : decode cL_isSame 4 = .ok (.istore 9, 2) := by decide +kernel
theorem dL_isSame_6 : decode cL_isSame 6 = .ok (.iload 9, 2) := by decide +kernel
theorem dL_isSame_8 : decode cL_isSame 8 = .ok (.ifCond .ne 7, 3) := by decide +kernel
theorem dL_isSame_11 : decode cL_isSame 11 = .ok (.aload_n 1, 1) := by decide +kernel
theorem dL_isSame_12 : decode cL_isSame 12 = .ok (.goto 4, 3) := by decide +kernel
theorem dL_isSame_15 : decode cL_isSame 15 = .ok (.aload_n 2, 1) := by decide +kernel
theorem dL_isSame_16 : decode cL_isSame 16 = .ok (.astore 10, 2) := by decide +kernel
theorem dL_isSame_18 : decode cL_isSame 18 = .ok (.iload 8, 2) := by decide +kernel
theorem dL_isSame_20 : decode cL_isSame 20 = .ok (.iconst 2, 1) := by decide +kernel
theorem dL_isSame_21 : decode cL_isSame 21 = .ok (.idiv, 1) := by decide +kernel
theorem dL_isSame_22 : decode cL_isSame 22 = .ok (.bipush 12, 2) := by decide +kernel
theorem dL_isSame_24 : decode cL_isSame 24 = .ok (.irem, 1) := by decide +kernel
theorem dL_isSame_25 : decode cL_isSame 25 = .ok (.istore 11, 2) := by decide +kernel
theorem dL_isSame_27 : decode cL_isSame 27 = .ok (.iload 8, 2) := by decide +kernel
theorem dL_isSame_29 : decode cL_isSame 29 = .ok (.bipush 24, 2) := by decide +kernel
theorem dL_isSame_31 : decode cL_isSame 31 = .ok (.idiv, 1) := by decide +kernel
theorem dL_isSame_32 : decode cL_isSame 32 = .ok (.iconst 4, 1) := by decide +kernel
theorem dL_isSame_33 : decode cL_isSame 33 = .ok (.irem, 1) := by decide +kernel
theorem dL_isSame_34 : decode cL_isSame 34 = .ok (.istore 12, 2) := by decide +kernel
theorem dL_isSame_36 : decode cL_isSame 36 = .ok (.aload 10, 2) := by decide +kernel
theorem dL_isSame_38 : decode cL_isSame 38 = .ok (.bipush 12, 2) := by decide +kernel
theorem dL_isSame_40 : decode cL_isSame 40 = .ok (.iload 12, 2) := by decide +kernel
theorem dL_isSame_42 : decode cL_isSame 42 = .ok (.imul, 1) := by decide +kernel
theorem dL_isSame_43 : decode cL_isSame 43 = .ok (.iload 11, 2) := by decide +kernel
theorem dL_isSame_45 : decode cL_isSame 45 = .ok (.iadd, 1) := by decide +kernel
theorem dL_isSame_46 : decode cL_isSame 46 = .ok (.laload, 1) := by decide +kernel
theorem dL_isSame_47 : decode cL_isSame 47 = .ok (.lstore 13, 2) := by decide +kernel
theorem dL_isSame_49 : decode cL_isSame 49 = .ok (.aload_n 0, 1) := by decide +kernel
theorem dL_isSame_50 : decode cL_isSame 50 = .ok (.iload 9, 2) := by decide +kernel
theorem dL_isSame_52 : decode cL_isSame 52 = .ok (.iload 11, 2) := by decide +kernel
theorem dL_isSame_54 : decode cL_isSame 54 = .ok (.iload 12, 2) := by decide +kernel
theorem dL_isSame_56 : decode cL_isSame 56 = .ok (.iconst 0, 1) := by decide +kernel
theorem dL_isSame_57 : decode cL_isSame 57 = .ok (.invokevirtual 76, 3) := by decide +kernel
theorem dL_isSame_60 : decode cL_isSame 60 = .ok (.lload 13, 2) := by decide +kernel
theorem dL_isSame_62 : decode cL_isSame 62 = .ok (.ldc2_w 9, 3) := by decide +kernel
theorem dL_isSame_65 : decode cL_isSame 65 = .ok (.land, 1) := by decide +kernel
theorem dL_isSame_66 : decode cL_isSame 66 = .ok (.l2i, 1) := by decide +kernel
theorem dL_isSame_67 : decode cL_isSame 67 = .ok (.if_icmp .ne 116, 3) := by decide +kernel
theorem dL_isSame_70 : decode cL_isSame 70 = .ok (.aload_n 0, 1) := by decide +kernel
theorem dL_isSame_71 : decode cL_isSame 71 = .ok (.iload 9, 2) := by decide +kernel
theorem dL_isSame_73 : decode cL_isSame 73 = .ok (.iload 11, 2) := by decide +kernel
theorem dL_isSame_75 : decode cL_isSame 75 = .ok (.iload 12, 2) := by decide +kernel
theorem dL_isSame_77 : decode cL_isSame 77 = .ok (.iconst 1, 1) := by decide +kernel
theorem dL_isSame_78 : decode cL_isSame 78 = .ok (.invokevirtual 76, 3) := by decide +kernel
theorem dL_isSame_81 : decode cL_isSame 81 = .ok (.lload 13, 2) := by decide +kernel
theorem dL_isSame_83 : decode cL_isSame 83 = .ok (.invokestatic 63, 3) := by decide +kernel
theorem dL_isSame_86 : decode cL_isSame 86 = .ok (.if_icmp .ne 97, 3) := by decide +kernel
theorem dL_isSame_89 : decode cL_isSame 89 = .ok (.aload_n 0, 1) := by decide +kernel
theorem dL_isSame_90 : decode cL_isSame 90 = .ok (.iload 9, 2) := by decide +kernel
theorem dL_isSame_92 : decode cL_isSame 92 = .ok (.iload 11, 2) := by decide +kernel
theorem dL_isSame_94 : decode cL_isSame 94 = .ok (.iload 12, 2) := by decide +kernel
theorem dL_isSame_96 : decode cL_isSame 96 = .ok (.iconst 2, 1) := by decide +kernel
theorem dL_isSame_97 : decode cL_isSame 97 = .ok (.invokevirtual 76, 3) := by decide +kernel
theorem dL_isSame_100 : decode cL_isSame 100 = .ok (.lload 13, 2) := by decide +kernel
theorem dL_isSame_102 : decode cL_isSame 102 = .ok (.iconst 4, 1) := by decide +kernel
theorem dL_isSame_103 : decode cL_isSame 103 = .ok (.lshr, 1) := by decide +kernel
theorem dL_isSame_104 : decode cL_isSame 104 = .ok (.ldc2_w 49, 3) := by decide +kernel
theorem dL_isSame_107 : decode cL_isSame 107 = .ok (.land, 1) := by decide +kernel
theorem dL_isSame_108 : decode cL_isSame 108 = .ok (.l2i, 1) := by decide +kernel
theorem dL_isSame_109 : decode cL_isSame 109 = .ok (.iconst 1, 1) := by decide +kernel
theorem dL_isSame_110 : decode cL_isSame 110 = .ok (.isub, 1) := by decide +kernel
theorem dL_isSame_111 : decode cL_isSame 111 = .ok (.if_icmp .ne 72, 3) := by decide +kernel
theorem dL_isSame_114 : decode cL_isSame 114 = .ok (.aload_n 0, 1) := by decide +kernel
theorem dL_isSame_115 : decode cL_isSame 115 = .ok (.iload 9, 2) := by decide +kernel
theorem dL_isSame_117 : decode cL_isSame 117 = .ok (.iload 11, 2) := by decide +kernel
theorem dL_isSame_119 : decode cL_isSame 119 = .ok (.iload 12, 2) := by decide +kernel
theorem dL_isSame_121 : decode cL_isSame 121 = .ok (.iconst 3, 1) := by decide +kernel
theorem dL_isSame_122 : decode cL_isSame 122 = .ok (.invokevirtual 76, 3) := by decide +kernel
theorem dL_isSame_125 : decode cL_isSame 125 = .ok (.lload 13, 2) := by decide +kernel
theorem dL_isSame_127 : decode cL_isSame 127 = .ok (.invokestatic 80, 3) := by decide +kernel
theorem dL_isSame_130 : decode cL_isSame 130 = .ok (.if_icmp .ne 53, 3) := by decide +kernel
theorem dL_isSame_133 : decode cL_isSame 133 = .ok (.aload_n 0, 1) := by decide +kernel
theorem dL_isSame_134 : decode cL_isSame 134 = .ok (.iload 9, 2) := by decide +kernel
theorem dL_isSame_136 : decode cL_isSame 136 = .ok (.iload 11, 2) := by decide +kernel
theorem dL_isSame_138 : decode cL_isSame 138 = .ok (.iload 12, 2) := by decide +kernel
theorem dL_isSame_140 : decode cL_isSame 140 = .ok (.iconst 4, 1) := by decide +kernel
theorem dL_isSame_141 : decode cL_isSame 141 = .ok (.invokevirtual 76, 3) := by decide +kernel
theorem dL_isSame_144 : decode cL_isSame 144 = .ok (.lload 13, 2) := by decide +kernel
theorem dL_isSame_146 : decode cL_isSame 146 = .ok (.bipush 44, 2) := by decide +kernel
theorem dL_isSame_148 : decode cL_isSame 148 = .ok (.lshr, 1) := by decide +kernel
theorem dL_isSame_149 : decode cL_isSame 149 = .ok (.ldc2_w 9, 3) := by decide +kernel
theorem dL_isSame_152 : decode cL_isSame 152 = .ok (.land, 1) := by decide +kernel
theorem dL_isSame_153 : decode cL_isSame 153 = .ok (.l2i, 1) := by decide +kernel
theorem dL_isSame_154 : decode cL_isSame 154 = .ok (.if_icmp .ne 29, 3) := by decide +kernel
theorem dL_isSame_157 : decode cL_isSame 157 = .ok (.aload_n 0, 1) := by decide +kernel
theorem dL_isSame_158 : decode cL_isSame 158 = .ok (.invokevirtual 83, 3) := by decide +kernel
theorem dL_isSame_161 : decode cL_isSame 161 = .ok (.aload 5, 2) := by decide +kernel
theorem dL_isSame_163 : decode cL_isSame 163 = .ok (.iconst 0, 1) := by decide +kernel
theorem dL_isSame_164 : decode cL_isSame 164 = .ok (.iaload, 1) := by decide +kernel
theorem dL_isSame_165 : decode cL_isSame 165 = .ok (.if_icmp .ne 18, 3) := by decide +kernel
theorem dL_isSame_168 : decode cL_isSame 168 = .ok (.aload_n 0, 1) := by decide +kernel
theorem dL_isSame_169 : decode cL_isSame 169 = .ok (.invokevirtual 87, 3) := by decide +kernel
theorem dL_isSame_172 : decode cL_isSame 172 = .ok (.aload 5, 2) := by decide +kernel
theorem dL_isSame_174 : decode cL_isSame 174 = .ok (.iconst 1, 1) := by decide +kernel
theorem dL_isSame_175 : decode cL_isSame 175 = .ok (.iaload, 1) := by decide +kernel
theorem dL_isSame_176 : decode cL_isSame 176 = .ok (.if_icmp .ne 7, 3) := by decide +kernel
theorem dL_isSame_179 : decode cL_isSame 179 = .ok (.iconst 1, 1) := by decide +kernel
theorem dL_isSame_180 : decode cL_isSame 180 = .ok (.goto 4, 3) := by decide +kernel
theorem dL_isSame_183 : decode cL_isSame 183 = .ok (.iconst 0, 1) := by decide +kernel
theorem dL_isSame_184 : decode cL_isSame 184 = .ok (.istore 15, 2) := by decide +kernel
theorem dL_isSame_186 : decode cL_isSame 186 = .ok (.aload 7, 2) := by decide +kernel
theorem dL_isSame_188 : decode cL_isSame 188 = .ok (.bipush 10, 2) := by decide +kernel
theorem dL_isSame_190 : decode cL_isSame 190 = .ok (.iaload, 1) := by decide +kernel
theorem dL_isSame_191 : decode cL_isSame 191 = .ok (.ifCond .le 17, 3) := by decide +kernel
theorem dL_isSame_194 : decode cL_isSame 194 = .ok (.aload 7, 2) := by decide +kernel
theorem dL_isSame_196 : decode cL_isSame 196 = .ok (.bipush 8, 2) := by decide +kernel
theorem dL_isSame_198 : decode cL_isSame 198 = .ok (.iaload, 1) := by decide +kernel
theorem dL_isSame_199 : decode cL_isSame 199 = .ok (.iload 9, 2) := by decide +kernel
theorem dL_isSame_201 : decode cL_isSame 201 = .ok (.if_icmp .ne 7, 3) := by decide +kernel
theorem dL_isSame_204 : decode cL_isSame 204 = .ok (.iconst 0, 1) := by decide +kernel
theorem dL_isSame_205 : decode cL_isSame 205 = .ok (.goto 27, 3) := by decide +kernel
theorem dL_isSame_208 : decode cL_isSame 208 = .ok (.aload 7, 2) := by decide +kernel
theorem dL_isSame_210 : decode cL_isSame 210 = .ok (.bipush 10, 2) := by decide +kernel
theorem dL_isSame_212 : decode cL_isSame 212 = .ok (.iaload, 1) := by decide +kernel
theorem dL_isSame_213 : decode cL_isSame 213 = .ok (.iconst 1, 1) := by decide +kernel
theorem dL_isSame_214 : decode cL_isSame 214 = .ok (.if_icmp .le 17, 3) := by decide +kernel
theorem dL_isSame_217 : decode cL_isSame 217 = .ok (.aload 7, 2) := by decide +kernel
theorem dL_isSame_219 : decode cL_isSame 219 = .ok (.bipush 9, 2) := by decide +kernel
theorem dL_isSame_221 : decode cL_isSame 221 = .ok (.iaload, 1) := by decide +kernel
theorem dL_isSame_222 : decode cL_isSame 222 = .ok (.iload 9, 2) := by decide +kernel
theorem dL_isSame_224 : decode cL_isSame 224 = .ok (.if_icmp .ne 7, 3) := by decide +kernel
theorem dL_isSame_227 : decode cL_isSame 227 = .ok (.iconst 1, 1) := by decide +kernel
theorem dL_isSame_228 : decode cL_isSame 228 = .ok (.goto 4, 3) := by decide +kernel
theorem dL_isSame_231 : decode cL_isSame 231 = .ok (.iconst (-1), 1) := by decide +kernel
theorem dL_isSame_232 : decode cL_isSame 232 = .ok (.istore 16, 2) := by decide +kernel
theorem dL_isSame_234 : decode cL_isSame 234 = .ok (.iload 15, 2) := by decide +kernel
theorem dL_isSame_236 : decode cL_isSame 236 = .ok (.ifCond .eq 74, 3) := by decide +kernel
theorem dL_isSame_239 : decode cL_isSame 239 = .ok (.aload_n 0, 1) := by decide +kernel
theorem dL_isSame_240 : decode cL_isSame 240 = .ok (.iload 9, 2) := by decide +kernel
theorem dL_isSame_242 : decode cL_isSame 242 = .ok (.iconst 0, 1) := by decide +kernel
theorem dL_isSame_243 : decode cL_isSame 243 = .ok (.invokevirtual 90, 3) := by decide +kernel
theorem dL_isSame_246 : decode cL_isSame 246 = .ok (.aload 7, 2) := by decide +kernel
theorem dL_isSame_248 : decode cL_isSame 248 = .ok (.iconst 4, 1) := by decide +kernel
theorem dL_isSame_249 : decode cL_isSame 249 = .ok (.iload 9, 2) := by decide +kernel
theorem dL_isSame_251 : decode cL_isSame 251 = .ok (.imul, 1) := by decide +kernel
theorem dL_isSame_252 : decode cL_isSame 252 = .ok (.iaload, 1) := by decide +kernel
theorem dL_isSame_253 : decode cL_isSame 253 = .ok (.if_icmp .ne 57, 3) := by decide +kernel
theorem dL_isSame_256 : decode cL_isSame 256 = .ok (.aload_n 0, 1) := by decide +kernel
theorem dL_isSame_257 : decode cL_isSame 257 = .ok (.iload 9, 2) := by decide +kernel
theorem dL_isSame_259 : decode cL_isSame 259 = .ok (.iconst 1, 1) := by decide +kernel
theorem dL_isSame_260 : decode cL_isSame 260 = .ok (.invokevirtual 90, 3) := by decide +kernel
theorem dL_isSame_263 : decode cL_isSame 263 = .ok (.aload 7, 2) := by decide +kernel
theorem dL_isSame_265 : decode cL_isSame 265 = .ok (.iconst 4, 1) := by decide +kernel
theorem dL_isSame_266 : decode cL_isSame 266 = .ok (.iload 9, 2) := by decide +kernel
theorem dL_isSame_268 : decode cL_isSame 268 = .ok (.imul, 1) := by decide +kernel
theorem dL_isSame_269 : decode cL_isSame 269 = .ok (.iconst 2, 1) := by decide +kernel
theorem dL_isSame_270 : decode cL_isSame 270 = .ok (.iadd, 1) := by decide +kernel
theorem dL_isSame_271 : decode cL_isSame 271 = .ok (.iaload, 1) := by decide +kernel
theorem dL_isSame_272 : decode cL_isSame 272 = .ok (.if_icmp .ne 38, 3) := by decide +kernel
theorem dL_isSame_275 : decode cL_isSame 275 = .ok (.aload_n 0, 1) := by decide +kernel
theorem dL_isSame_276 : decode cL_isSame 276 = .ok (.iload 9, 2) := by decide +kernel
theorem dL_isSame_278 : decode cL_isSame 278 = .ok (.iconst 2, 1) := by decide +kernel
theorem dL_isSame_279 : decode cL_isSame 279 = .ok (.invokevirtual 90, 3) := by decide +kernel
theorem dL_isSame_282 : decode cL_isSame 282 = .ok (.iload 16, 2) := by decide +kernel
theorem dL_isSame_284 : decode cL_isSame 284 = .ok (.if_icmp .ne 26, 3) := by decide +kernel
theorem dL_isSame_287 : decode cL_isSame 287 = .ok (.aload_n 0, 1) := by decide +kernel
theorem dL_isSame_288 : decode cL_isSame 288 = .ok (.iload 9, 2) := by decide +kernel
theorem dL_isSame_290 : decode cL_isSame 290 = .ok (.iconst 3, 1) := by decide +kernel
theorem dL_isSame_291 : decode cL_isSame 291 = .ok (.invokevirtual 90, 3) := by decide +kernel
theorem dL_isSame_294 : decode cL_isSame 294 = .ok (.aload 7, 2) := by decide +kernel
theorem dL_isSame_296 : decode cL_isSame 296 = .ok (.iconst 4, 1) := by decide +kernel
theorem dL_isSame_297 : decode cL_isSame 297 = .ok (.iload 9, 2) := by decide +kernel
theorem dL_isSame_299 : decode cL_isSame 299 = .ok (.imul, 1) := by decide +kernel
theorem dL_isSame_300 : decode cL_isSame 300 = .ok (.iconst 3, 1) := by decide +kernel
theorem dL_isSame_301 : decode cL_isSame 301 = .ok (.iadd, 1) := by decide +kernel
theorem dL_isSame_302 : decode cL_isSame 302 = .ok (.iaload, 1) := by decide +kernel
theorem dL_isSame_303 : decode cL_isSame 303 = .ok (.if_icmp .ne 7, 3) := by decide +kernel
theorem dL_isSame_306 : decode cL_isSame 306 = .ok (.iconst 1, 1) := by decide +kernel
theorem dL_isSame_307 : decode cL_isSame 307 = .ok (.goto 4, 3) := by decide +kernel
theorem dL_isSame_310 : decode cL_isSame 310 = .ok (.iconst 0, 1) := by decide +kernel
theorem dL_isSame_311 : decode cL_isSame 311 = .ok (.istore 15, 2) := by decide +kernel
theorem dL_isSame_313 : decode cL_isSame 313 = .ok (.iload 8, 2) := by decide +kernel
theorem dL_isSame_315 : decode cL_isSame 315 = .ok (.bipush 96, 2) := by decide +kernel
theorem dL_isSame_317 : decode cL_isSame 317 = .ok (.idiv, 1) := by decide +kernel
theorem dL_isSame_318 : decode cL_isSame 318 = .ok (.iconst 4, 1) := by decide +kernel
theorem dL_isSame_319 : decode cL_isSame 319 = .ok (.irem, 1) := by decide +kernel
theorem dL_isSame_320 : decode cL_isSame 320 = .ok (.istore 17, 2) := by decide +kernel
theorem dL_isSame_322 : decode cL_isSame 322 = .ok (.iconst 0, 1) := by decide +kernel
theorem dL_isSame_323 : decode cL_isSame 323 = .ok (.istore 18, 2) := by decide +kernel
theorem dL_isSame_325 : decode cL_isSame 325 = .ok (.iload 18, 2) := by decide +kernel
theorem dL_isSame_327 : decode cL_isSame 327 = .ok (.bipush 6, 2) := by decide +kernel
theorem dL_isSame_329 : decode cL_isSame 329 = .ok (.if_icmp .ge 64, 3) := by decide +kernel
theorem dL_isSame_332 : decode cL_isSame 332 = .ok (.iload 15, 2) := by decide +kernel
theorem dL_isSame_334 : decode cL_isSame 334 = .ok (.ifCond .eq 59, 3) := by decide +kernel
theorem dL_isSame_337 : decode cL_isSame 337 = .ok (.aload_n 0, 1) := by decide +kernel
theorem dL_isSame_338 : decode cL_isSame 338 = .ok (.iload 17, 2) := by decide +kernel
theorem dL_isSame_340 : decode cL_isSame 340 = .ok (.iload 18, 2) := by decide +kernel
theorem dL_isSame_342 : decode cL_isSame 342 = .ok (.invokevirtual 94, 3) := by decide +kernel
theorem dL_isSame_345 : decode cL_isSame 345 = .ok (.aload 4, 2) := by decide +kernel
theorem dL_isSame_347 : decode cL_isSame 347 = .ok (.bipush 9, 2) := by decide +kernel
theorem dL_isSame_349 : decode cL_isSame 349 = .ok (.iload 17, 2) := by decide +kernel
theorem dL_isSame_351 : decode cL_isSame 351 = .ok (.imul, 1) := by decide +kernel
theorem dL_isSame_352 : decode cL_isSame 352 = .ok (.iload 18, 2) := by decide +kernel
theorem dL_isSame_354 : decode cL_isSame 354 = .ok (.iconst 4, 1) := by decide +kernel
theorem dL_isSame_355 : decode cL_isSame 355 = .ok (.if_icmp .ge 8, 3) := by decide +kernel
theorem dL_isSame_358 : decode cL_isSame 358 = .ok (.iload 18, 2) := by decide +kernel
theorem dL_isSame_360 : decode cL_isSame 360 = .ok (.goto 15, 3) := by decide +kernel
theorem dL_isSame_363 : decode cL_isSame 363 = .ok (.iload 18, 2) := by decide +kernel
theorem dL_isSame_365 : decode cL_isSame 365 = .ok (.iconst 4, 1) := by decide +kernel
theorem dL_isSame_366 : decode cL_isSame 366 = .ok (.if_icmp .ne 7, 3) := by decide +kernel
theorem dL_isSame_369 : decode cL_isSame 369 = .ok (.iconst 4, 1) := by decide +kernel
theorem dL_isSame_370 : decode cL_isSame 370 = .ok (.goto 5, 3) := by decide +kernel
theorem dL_isSame_373 : decode cL_isSame 373 = .ok (.bipush 8, 2) := by decide +kernel
theorem dL_isSame_375 : decode cL_isSame 375 = .ok (.iadd, 1) := by decide +kernel
theorem dL_isSame_376 : decode cL_isSame 376 = .ok (.iaload, 1) := by decide +kernel
theorem dL_isSame_377 : decode cL_isSame 377 = .ok (.if_icmp .ne 7, 3) := by decide +kernel
theorem dL_isSame_380 : decode cL_isSame 380 = .ok (.iconst 1, 1) := by decide +kernel
theorem dL_isSame_381 : decode cL_isSame 381 = .ok (.goto 4, 3) := by decide +kernel
theorem dL_isSame_384 : decode cL_isSame 384 = .ok (.iconst 0, 1) := by decide +kernel
theorem dL_isSame_385 : decode cL_isSame 385 = .ok (.istore 15, 2) := by decide +kernel
theorem dL_isSame_387 : decode cL_isSame 387 = .ok (.iinc 18 1, 3) := by decide +kernel
theorem dL_isSame_390 : decode cL_isSame 390 = .ok (.goto (-65), 3) := by decide +kernel
theorem dL_isSame_393 : decode cL_isSame 393 = .ok (.iload 8, 2) := by decide +kernel
theorem dL_isSame_395 : decode cL_isSame 395 = .ok (.sipush 384, 3) := by decide +kernel
theorem dL_isSame_398 : decode cL_isSame 398 = .ok (.idiv, 1) := by decide +kernel
theorem dL_isSame_399 : decode cL_isSame 399 = .ok (.iconst 4, 1) := by decide +kernel
theorem dL_isSame_400 : decode cL_isSame 400 = .ok (.irem, 1) := by decide +kernel
theorem dL_isSame_401 : decode cL_isSame 401 = .ok (.ifCond .ne 121, 3) := by decide +kernel
theorem dL_isSame_404 : decode cL_isSame 404 = .ok (.iload 15, 2) := by decide +kernel
theorem dL_isSame_406 : decode cL_isSame 406 = .ok (.ifCond .eq 116, 3) := by decide +kernel
theorem dL_isSame_409 : decode cL_isSame 409 = .ok (.iload 8, 2) := by decide +kernel
theorem dL_isSame_411 : decode cL_isSame 411 = .ok (.sipush 1536, 3) := by decide +kernel
theorem dL_isSame_414 : decode cL_isSame 414 = .ok (.idiv, 1) := by decide +kernel
theorem dL_isSame_415 : decode cL_isSame 415 = .ok (.iconst 3, 1) := by decide +kernel
theorem dL_isSame_416 : decode cL_isSame 416 = .ok (.irem, 1) := by decide +kernel
theorem dL_isSame_417 : decode cL_isSame 417 = .ok (.istore 18, 2) := by decide +kernel
theorem dL_isSame_419 : decode cL_isSame 419 = .ok (.aload 10, 2) := by decide +kernel
theorem dL_isSame_421 : decode cL_isSame 421 = .ok (.invokestatic 37, 3) := by decide +kernel
theorem dL_isSame_424 : decode cL_isSame 424 = .ok (.aload_n 3, 1) := by decide +kernel
theorem dL_isSame_425 : decode cL_isSame 425 = .ok (.aload 4, 2) := by decide +kernel
theorem dL_isSame_427 : decode cL_isSame 427 = .ok (.aload 5, 2) := by decide +kernel
theorem dL_isSame_429 : decode cL_isSame 429 = .ok (.aload 6, 2) := by decide +kernel
theorem dL_isSame_431 : decode cL_isSame 431 = .ok (.iload 18, 2) := by decide +kernel
theorem dL_isSame_433 : decode cL_isSame 433 = .ok (.iconst 0, 1) := by decide +kernel
theorem dL_isSame_434 : decode cL_isSame 434 = .ok (.iconst 0, 1) := by decide +kernel
theorem dL_isSame_435 : decode cL_isSame 435 = .ok (.invokestatic 33, 3) := by decide +kernel
theorem dL_isSame_438 : decode cL_isSame 438 = .ok (.istore 19, 2) := by decide +kernel
theorem dL_isSame_440 : decode cL_isSame 440 = .ok (.aload_n 0, 1) := by decide +kernel
theorem dL_isSame_441 : decode cL_isSame 441 = .ok (.iload 9, 2) := by decide +kernel
theorem dL_isSame_443 : decode cL_isSame 443 = .ok (.iload 18, 2) := by decide +kernel
theorem dL_isSame_445 : decode cL_isSame 445 = .ok (.invokevirtual 97, 3) := by decide +kernel
theorem dL_isSame_448 : decode cL_isSame 448 = .ok (.iload 19, 2) := by decide +kernel
theorem dL_isSame_450 : decode cL_isSame 450 = .ok (.ifCond .ne 7, 3) := by decide +kernel
theorem dL_isSame_453 : decode cL_isSame 453 = .ok (.iconst (-1), 1) := by decide +kernel
theorem dL_isSame_454 : decode cL_isSame 454 = .ok (.goto 15, 3) := by decide +kernel
theorem dL_isSame_457 : decode cL_isSame 457 = .ok (.sipush 10000, 3) := by decide +kernel
theorem dL_isSame_460 : decode cL_isSame 460 = .ok (.iload 19, 2) := by decide +kernel
theorem dL_isSame_462 : decode cL_isSame 462 = .ok (.imul, 1) := by decide +kernel
theorem dL_isSame_463 : decode cL_isSame 463 = .ok (.aload 6, 2) := by decide +kernel
theorem dL_isSame_465 : decode cL_isSame 465 = .ok (.bipush 6, 2) := by decide +kernel
theorem dL_isSame_467 : decode cL_isSame 467 = .ok (.iaload, 1) := by decide +kernel
theorem dL_isSame_468 : decode cL_isSame 468 = .ok (.iadd, 1) := by decide +kernel
theorem dL_isSame_469 : decode cL_isSame 469 = .ok (.if_icmp .ne 50, 3) := by decide +kernel
theorem dL_isSame_472 : decode cL_isSame 472 = .ok (.aload_n 0, 1) := by decide +kernel
theorem dL_isSame_473 : decode cL_isSame 473 = .ok (.iload 9, 2) := by decide +kernel
theorem dL_isSame_475 : decode cL_isSame 475 = .ok (.iload 18, 2) := by decide +kernel
theorem dL_isSame_477 : decode cL_isSame 477 = .ok (.invokevirtual 100, 3) := by decide +kernel
theorem dL_isSame_480 : decode cL_isSame 480 = .ok (.iload 19, 2) := by decide +kernel
theorem dL_isSame_482 : decode cL_isSame 482 = .ok (.ifCond .ne 29, 3) := by decide +kernel
theorem dL_isSame_485 : decode cL_isSame 485 = .ok (.aload 6, 2) := by decide +kernel
theorem dL_isSame_487 : decode cL_isSame 487 = .ok (.bipush 8, 2) := by decide +kernel
theorem dL_isSame_489 : decode cL_isSame 489 = .ok (.iaload, 1) := by decide +kernel
theorem dL_isSame_490 : decode cL_isSame 490 = .ok (.aload 6, 2) := by decide +kernel
theorem dL_isSame_492 : decode cL_isSame 492 = .ok (.bipush 9, 2) := by decide +kernel
theorem dL_isSame_494 : decode cL_isSame 494 = .ok (.iaload, 1) := by decide +kernel
theorem dL_isSame_495 : decode cL_isSame 495 = .ok (.iadd, 1) := by decide +kernel
theorem dL_isSame_496 : decode cL_isSame 496 = .ok (.aload 6, 2) := by decide +kernel
theorem dL_isSame_498 : decode cL_isSame 498 = .ok (.bipush 10, 2) := by decide +kernel
theorem dL_isSame_500 : decode cL_isSame 500 = .ok (.iaload, 1) := by decide +kernel
theorem dL_isSame_501 : decode cL_isSame 501 = .ok (.iadd, 1) := by decide +kernel
theorem dL_isSame_502 : decode cL_isSame 502 = .ok (.aload 6, 2) := by decide +kernel
theorem dL_isSame_504 : decode cL_isSame 504 = .ok (.bipush 11, 2) := by decide +kernel
theorem dL_isSame_506 : decode cL_isSame 506 = .ok (.iaload, 1) := by decide +kernel
theorem dL_isSame_507 : decode cL_isSame 507 = .ok (.iadd, 1) := by decide +kernel
theorem dL_isSame_508 : decode cL_isSame 508 = .ok (.goto 4, 3) := by decide +kernel
theorem dL_isSame_511 : decode cL_isSame 511 = .ok (.iconst (-1), 1) := by decide +kernel
theorem dL_isSame_512 : decode cL_isSame 512 = .ok (.if_icmp .ne 7, 3) := by decide +kernel
theorem dL_isSame_515 : decode cL_isSame 515 = .ok (.iconst 1, 1) := by decide +kernel
theorem dL_isSame_516 : decode cL_isSame 516 = .ok (.goto 4, 3) := by decide +kernel
theorem dL_isSame_519 : decode cL_isSame 519 = .ok (.iconst 0, 1) := by decide +kernel
theorem dL_isSame_520 : decode cL_isSame 520 = .ok (.istore 15, 2) := by decide +kernel
theorem dL_isSame_522 : decode cL_isSame 522 = .ok (.iload 8, 2) := by decide +kernel
theorem dL_isSame_524 : decode cL_isSame 524 = .ok (.sipush 384, 3) := by decide +kernel
theorem dL_isSame_527 : decode cL_isSame 527 = .ok (.idiv, 1) := by decide +kernel
theorem dL_isSame_528 : decode cL_isSame 528 = .ok (.iconst 4, 1) := by decide +kernel
theorem dL_isSame_529 : decode cL_isSame 529 = .ok (.irem, 1) := by decide +kernel
theorem dL_isSame_530 : decode cL_isSame 530 = .ok (.iconst 1, 1) := by decide +kernel
theorem dL_isSame_531 : decode cL_isSame 531 = .ok (.if_icmp .ne 73, 3) := by decide +kernel
theorem dL_isSame_534 : decode cL_isSame 534 = .ok (.iload 15, 2) := by decide +kernel
theorem dL_isSame_536 : decode cL_isSame 536 = .ok (.ifCond .eq 68, 3) := by decide +kernel
theorem dL_isSame_539 : decode cL_isSame 539 = .ok (.aload_n 0, 1) := by decide +kernel
theorem dL_isSame_540 : decode cL_isSame 540 = .ok (.invokevirtual 103, 3) := by decide +kernel
theorem dL_isSame_543 : decode cL_isSame 543 = .ok (.aload_n 1, 1) := by decide +kernel
theorem dL_isSame_544 : decode cL_isSame 544 = .ok (.aload_n 2, 1) := by decide +kernel
theorem dL_isSame_545 : decode cL_isSame 545 = .ok (.aload_n 3, 1) := by decide +kernel
theorem dL_isSame_546 : decode cL_isSame 546 = .ok (.aload 4, 2) := by decide +kernel
theorem dL_isSame_548 : decode cL_isSame 548 = .ok (.aload 5, 2) := by decide +kernel
theorem dL_isSame_550 : decode cL_isSame 550 = .ok (.aload 6, 2) := by decide +kernel
theorem dL_isSame_552 : decode cL_isSame 552 = .ok (.aload 7, 2) := by decide +kernel
theorem dL_isSame_554 : decode cL_isSame 554 = .ok (.invokestatic 106, 3) := by decide +kernel
theorem dL_isSame_557 : decode cL_isSame 557 = .ok (.if_icmp .ne 44, 3) := by decide +kernel
theorem dL_isSame_560 : decode cL_isSame 560 = .ok (.aload_n 0, 1) := by decide +kernel
theorem dL_isSame_561 : decode cL_isSame 561 = .ok (.iload 8, 2) := by decide +kernel
theorem dL_isSame_563 : decode cL_isSame 563 = .ok (.sipush 1536, 3) := by decide +kernel
theorem dL_isSame_566 : decode cL_isSame 566 = .ok (.idiv, 1) := by decide +kernel
theorem dL_isSame_567 : decode cL_isSame 567 = .ok (.iconst 4, 1) := by decide +kernel
theorem dL_isSame_568 : decode cL_isSame 568 = .ok (.irem, 1) := by decide +kernel
theorem dL_isSame_569 : decode cL_isSame 569 = .ok (.invokevirtual 109, 3) := by decide +kernel
theorem dL_isSame_572 : decode cL_isSame 572 = .ok (.aload_n 1, 1) := by decide +kernel
theorem dL_isSame_573 : decode cL_isSame 573 = .ok (.aload_n 2, 1) := by decide +kernel
theorem dL_isSame_574 : decode cL_isSame 574 = .ok (.aload_n 3, 1) := by decide +kernel
theorem dL_isSame_575 : decode cL_isSame 575 = .ok (.aload 4, 2) := by decide +kernel
theorem dL_isSame_577 : decode cL_isSame 577 = .ok (.aload 5, 2) := by decide +kernel
theorem dL_isSame_579 : decode cL_isSame 579 = .ok (.aload 6, 2) := by decide +kernel
theorem dL_isSame_581 : decode cL_isSame 581 = .ok (.aload 7, 2) := by decide +kernel
theorem dL_isSame_583 : decode cL_isSame 583 = .ok (.iload 8, 2) := by decide +kernel
theorem dL_isSame_585 : decode cL_isSame 585 = .ok (.sipush 1536, 3) := by decide +kernel
theorem dL_isSame_588 : decode cL_isSame 588 = .ok (.idiv, 1) := by decide +kernel
theorem dL_isSame_589 : decode cL_isSame 589 = .ok (.iconst 4, 1) := by decide +kernel
theorem dL_isSame_590 : decode cL_isSame 590 = .ok (.irem, 1) := by decide +kernel
theorem dL_isSame_591 : decode cL_isSame 591 = .ok (.invokestatic 112, 3) := by decide +kernel
theorem dL_isSame_594 : decode cL_isSame 594 = .ok (.if_icmp .ne 7, 3) := by decide +kernel
theorem dL_isSame_597 : decode cL_isSame 597 = .ok (.iconst 1, 1) := by decide +kernel
theorem dL_isSame_598 : decode cL_isSame 598 = .ok (.goto 4, 3) := by decide +kernel
theorem dL_isSame_601 : decode cL_isSame 601 = .ok (.iconst 0, 1) := by decide +kernel
theorem dL_isSame_602 : decode cL_isSame 602 = .ok (.istore 15, 2) := by decide +kernel
theorem dL_isSame_604 : decode cL_isSame 604 = .ok (.aload 5, 2) := by decide +kernel
theorem dL_isSame_606 : decode cL_isSame 606 = .ok (.bipush 28, 2) := by decide +kernel
theorem dL_isSame_608 : decode cL_isSame 608 = .ok (.iaload, 1) := by decide +kernel
theorem dL_isSame_609 : decode cL_isSame 609 = .ok (.ifCond .le 136, 3) := by decide +kernel
theorem dL_isSame_612 : decode cL_isSame 612 = .ok (.iload 15, 2) := by decide +kernel
theorem dL_isSame_614 : decode cL_isSame 614 = .ok (.ifCond .eq 131, 3) := by decide +kernel
theorem dL_isSame_617 : decode cL_isSame 617 = .ok (.aload 5, 2) := by decide +kernel
theorem dL_isSame_619 : decode cL_isSame 619 = .ok (.bipush 28, 2) := by decide +kernel
theorem dL_isSame_621 : decode cL_isSame 621 = .ok (.iaload, 1) := by decide +kernel
theorem dL_isSame_622 : decode cL_isSame 622 = .ok (.iconst 1, 1) := by decide +kernel
theorem dL_isSame_623 : decode cL_isSame 623 = .ok (.isub, 1) := by decide +kernel
theorem dL_isSame_624 : decode cL_isSame 624 = .ok (.istore 18, 2) := by decide +kernel
theorem dL_isSame_626 : decode cL_isSame 626 = .ok (.aload_n 0, 1) := by decide +kernel
theorem dL_isSame_627 : decode cL_isSame 627 = .ok (.iload 18, 2) := by decide +kernel
theorem dL_isSame_629 : decode cL_isSame 629 = .ok (.iconst 0, 1) := by decide +kernel
theorem dL_isSame_630 : decode cL_isSame 630 = .ok (.invokevirtual 115, 3) := by decide +kernel
theorem dL_isSame_633 : decode cL_isSame 633 = .ok (.aload 5, 2) := by decide +kernel
theorem dL_isSame_635 : decode cL_isSame 635 = .ok (.bipush 29, 2) := by decide +kernel
theorem dL_isSame_637 : decode cL_isSame 637 = .ok (.iaload, 1) := by decide +kernel
theorem dL_isSame_638 : decode cL_isSame 638 = .ok (.if_icmp .ne 104, 3) := by decide +kernel
theorem dL_isSame_641 : decode cL_isSame 641 = .ok (.aload_n 0, 1) := by decide +kernel
theorem dL_isSame_642 : decode cL_isSame 642 = .ok (.iload 18, 2) := by decide +kernel
theorem dL_isSame_644 : decode cL_isSame 644 = .ok (.iconst 1, 1) := by decide +kernel
theorem dL_isSame_645 : decode cL_isSame 645 = .ok (.invokevirtual 115, 3) := by decide +kernel
theorem dL_isSame_648 : decode cL_isSame 648 = .ok (.ifCond .ne 94, 3) := by decide +kernel
theorem dL_isSame_651 : decode cL_isSame 651 = .ok (.aload_n 0, 1) := by decide +kernel
theorem dL_isSame_652 : decode cL_isSame 652 = .ok (.iload 18, 2) := by decide +kernel
theorem dL_isSame_654 : decode cL_isSame 654 = .ok (.iconst 2, 1) := by decide +kernel
theorem dL_isSame_655 : decode cL_isSame 655 = .ok (.invokevirtual 115, 3) := by decide +kernel
theorem dL_isSame_658 : decode cL_isSame 658 = .ok (.aload 5, 2) := by decide +kernel
theorem dL_isSame_660 : decode cL_isSame 660 = .ok (.bipush 30, 2) := by decide +kernel
theorem dL_isSame_662 : decode cL_isSame 662 = .ok (.iaload, 1) := by decide +kernel
theorem dL_isSame_663 : decode cL_isSame 663 = .ok (.if_icmp .ne 79, 3) := by decide +kernel
theorem dL_isSame_666 : decode cL_isSame 666 = .ok (.aload_n 0, 1) := by decide +kernel
theorem dL_isSame_667 : decode cL_isSame 667 = .ok (.iload 18, 2) := by decide +kernel
theorem dL_isSame_669 : decode cL_isSame 669 = .ok (.iconst 3, 1) := by decide +kernel
theorem dL_isSame_670 : decode cL_isSame 670 = .ok (.invokevirtual 115, 3) := by decide +kernel
theorem dL_isSame_673 : decode cL_isSame 673 = .ok (.aload 5, 2) := by decide +kernel
theorem dL_isSame_675 : decode cL_isSame 675 = .ok (.bipush 31, 2) := by decide +kernel
theorem dL_isSame_677 : decode cL_isSame 677 = .ok (.iaload, 1) := by decide +kernel
theorem dL_isSame_678 : decode cL_isSame 678 = .ok (.if_icmp .ne 64, 3) := by decide +kernel
theorem dL_isSame_681 : decode cL_isSame 681 = .ok (.aload_n 0, 1) := by decide +kernel
theorem dL_isSame_682 : decode cL_isSame 682 = .ok (.iload 18, 2) := by decide +kernel
theorem dL_isSame_684 : decode cL_isSame 684 = .ok (.iconst 4, 1) := by decide +kernel
theorem dL_isSame_685 : decode cL_isSame 685 = .ok (.invokevirtual 115, 3) := by decide +kernel
theorem dL_isSame_688 : decode cL_isSame 688 = .ok (.aload 5, 2) := by decide +kernel
theorem dL_isSame_690 : decode cL_isSame 690 = .ok (.bipush 32, 2) := by decide +kernel
theorem dL_isSame_692 : decode cL_isSame 692 = .ok (.iaload, 1) := by decide +kernel
theorem dL_isSame_693 : decode cL_isSame 693 = .ok (.if_icmp .ne 49, 3) := by decide +kernel
theorem dL_isSame_696 : decode cL_isSame 696 = .ok (.aload_n 0, 1) := by decide +kernel
theorem dL_isSame_697 : decode cL_isSame 697 = .ok (.iload 18, 2) := by decide +kernel
theorem dL_isSame_699 : decode cL_isSame 699 = .ok (.iconst 5, 1) := by decide +kernel
theorem dL_isSame_700 : decode cL_isSame 700 = .ok (.invokevirtual 115, 3) := by decide +kernel
theorem dL_isSame_703 : decode cL_isSame 703 = .ok (.aload 5, 2) := by decide +kernel
theorem dL_isSame_705 : decode cL_isSame 705 = .ok (.bipush 33, 2) := by decide +kernel
theorem dL_isSame_707 : decode cL_isSame 707 = .ok (.iaload, 1) := by decide +kernel
theorem dL_isSame_708 : decode cL_isSame 708 = .ok (.if_icmp .ne 34, 3) := by decide +kernel
theorem dL_isSame_711 : decode cL_isSame 711 = .ok (.aload_n 0, 1) := by decide +kernel
theorem dL_isSame_712 : decode cL_isSame 712 = .ok (.iload 18, 2) := by decide +kernel
theorem dL_isSame_714 : decode cL_isSame 714 = .ok (.bipush 6, 2) := by decide +kernel
theorem dL_isSame_716 : decode cL_isSame 716 = .ok (.invokevirtual 115, 3) := by decide +kernel
theorem dL_isSame_719 : decode cL_isSame 719 = .ok (.aload 5, 2) := by decide +kernel
theorem dL_isSame_721 : decode cL_isSame 721 = .ok (.bipush 34, 2) := by decide +kernel
theorem dL_isSame_723 : decode cL_isSame 723 = .ok (.iaload, 1) := by decide +kernel
theorem dL_isSame_724 : decode cL_isSame 724 = .ok (.if_icmp .ne 18, 3) := by decide +kernel
theorem dL_isSame_727 : decode cL_isSame 727 = .ok (.aload_n 0, 1) := by decide +kernel
theorem dL_isSame_728 : decode cL_isSame 728 = .ok (.iload 18, 2) := by decide +kernel
theorem dL_isSame_730 : decode cL_isSame 730 = .ok (.bipush 7, 2) := by decide +kernel
theorem dL_isSame_732 : decode cL_isSame 732 = .ok (.invokevirtual 115, 3) := by decide +kernel
theorem dL_isSame_735 : decode cL_isSame 735 = .ok (.ifCond .ne 7, 3) := by decide +kernel
theorem dL_isSame_738 : decode cL_isSame 738 = .ok (.iconst 1, 1) := by decide +kernel
theorem dL_isSame_739 : decode cL_isSame 739 = .ok (.goto 4, 3) := by decide +kernel
theorem dL_isSame_742 : decode cL_isSame 742 = .ok (.iconst 0, 1) := by decide +kernel
theorem dL_isSame_743 : decode cL_isSame 743 = .ok (.istore 15, 2) := by decide +kernel
theorem dL_isSame_745 : decode cL_isSame 745 = .ok (.iload 15, 2) := by decide +kernel
theorem dL_isSame_747 : decode cL_isSame 747 = .ok (.ireturn, 1) := by decide +kernel
theorem dL_isBlock_0 : decode cL_isBlock 0 = .ok (.aload_n 1, 1) := by decide +kernel
theorem dL_isBlock_1 : decode cL_isBlock 1 = .ok (.bipush 36, 2) := by decide +kernel
theorem dL_isBlock_3 : decode cL_isBlock 3 = .ok (.iload_n 2, 1) := by decide +kernel
theorem dL_isBlock_4 : decode cL_isBlock 4 = .ok (.iadd, 1) := by decide +kernel
theorem dL_isBlock_5 : decode cL_isBlock 5 = .ok (.iaload, 1) := by decide +kernel
theorem dL_isBlock_6 : decode cL_isBlock 6 = .ok (.bipush 12, 2) := by decide +kernel
theorem dL_isBlock_8 : decode cL_isBlock 8 = .ok (.if_icmp .ne 5, 3) := by decide +kernel
theorem dL_isBlock_11 : decode cL_isBlock 11 = .ok (.iconst 1, 1) := by decide +kernel
theorem dL_isBlock_12 : decode cL_isBlock 12 = .ok (.ireturn, 1) := by decide +kernel
theorem dL_isBlock_13 : decode cL_isBlock 13 = .ok (.aload_n 1, 1) := by decide +kernel
theorem dL_isBlock_14 : decode cL_isBlock 14 = .ok (.bipush 12, 2) := by decide +kernel
theorem dL_isBlock_16 : decode cL_isBlock 16 = .ok (.iload_n 2, 1) := by decide +kernel
theorem dL_isBlock_17 : decode cL_isBlock 17 = .ok (.imul, 1) := by decide +kernel
theorem dL_isBlock_18 : decode cL_isBlock 18 = .ok (.aload_n 1, 1) := by decide +kernel
theorem dL_isBlock_19 : decode cL_isBlock 19 = .ok (.bipush 36, 2) := by decide +kernel
theorem dL_isBlock_21 : decode cL_isBlock 21 = .ok (.iload_n 2, 1) := by decide +kernel
theorem dL_isBlock_22 : decode cL_isBlock 22 = .ok (.iadd, 1) := by decide +kernel
theorem dL_isBlock_23 : decode cL_isBlock 23 = .ok (.iaload, 1) := by decide +kernel
theorem dL_isBlock_24 : decode cL_isBlock 24 = .ok (.iadd, 1) := by decide +kernel
theorem dL_isBlock_25 : decode cL_isBlock 25 = .ok (.iload_n 3, 1) := by decide +kernel
theorem dL_isBlock_26 : decode cL_isBlock 26 = .ok (.bipush 8, 2) := by decide +kernel
theorem dL_isBlock_28 : decode cL_isBlock 28 = .ok (.iload 4, 2) := by decide +kernel
theorem dL_isBlock_30 : decode cL_isBlock 30 = .ok (.bipush 16, 2) := by decide +kernel
theorem dL_isBlock_32 : decode cL_isBlock 32 = .ok (.iadd, 1) := by decide +kernel
theorem dL_isBlock_33 : decode cL_isBlock 33 = .ok (.imul, 1) := by decide +kernel
theorem dL_isBlock_34 : decode cL_isBlock 34 = .ok (.iadd, 1) := by decide +kernel
theorem dL_isBlock_35 : decode cL_isBlock 35 = .ok (.iastore, 1) := by decide +kernel
theorem dL_isBlock_36 : decode cL_isBlock 36 = .ok (.aload_n 1, 1) := by decide +kernel
theorem dL_isBlock_37 : decode cL_isBlock 37 = .ok (.bipush 36, 2) := by decide +kernel
theorem dL_isBlock_39 : decode cL_isBlock 39 = .ok (.iload_n 2, 1) := by decide +kernel
theorem dL_isBlock_40 : decode cL_isBlock 40 = .ok (.iadd, 1) := by decide +kernel
theorem dL_isBlock_41 : decode cL_isBlock 41 = .ok (.dup2, 1) := by decide +kernel
theorem dL_isBlock_42 : decode cL_isBlock 42 = .ok (.iaload, 1) := by decide +kernel
theorem dL_isBlock_43 : decode cL_isBlock 43 = .ok (.iconst 1, 1) := by decide +kernel
theorem dL_isBlock_44 : decode cL_isBlock 44 = .ok (.iadd, 1) := by decide +kernel
theorem dL_isBlock_45 : decode cL_isBlock 45 = .ok (.iastore, 1) := by decide +kernel
theorem dL_isBlock_46 : decode cL_isBlock 46 = .ok (.aload_n 0, 1) := by decide +kernel
theorem dL_isBlock_47 : decode cL_isBlock 47 = .ok (.iload_n 2, 1) := by decide +kernel
theorem dL_isBlock_48 : decode cL_isBlock 48 = .ok (.iload_n 3, 1) := by decide +kernel
theorem dL_isBlock_49 : decode cL_isBlock 49 = .ok (.iload 4, 2) := by decide +kernel
theorem dL_isBlock_51 : decode cL_isBlock 51 = .ok (.invokevirtual 118, 3) := by decide +kernel
theorem dL_isBlock_54 : decode cL_isBlock 54 = .ok (.aload_n 1, 1) := by decide +kernel
theorem dL_isBlock_55 : decode cL_isBlock 55 = .ok (.bipush 36, 2) := by decide +kernel
theorem dL_isBlock_57 : decode cL_isBlock 57 = .ok (.iload_n 2, 1) := by decide +kernel
theorem dL_isBlock_58 : decode cL_isBlock 58 = .ok (.iadd, 1) := by decide +kernel
theorem dL_isBlock_59 : decode cL_isBlock 59 = .ok (.iaload, 1) := by decide +kernel
theorem dL_isBlock_60 : decode cL_isBlock 60 = .ok (.if_icmp .ne 7, 3) := by decide +kernel
theorem dL_isBlock_63 : decode cL_isBlock 63 = .ok (.iconst 1, 1) := by decide +kernel
theorem dL_isBlock_64 : decode cL_isBlock 64 = .ok (.goto 4, 3) := by decide +kernel
theorem dL_isBlock_67 : decode cL_isBlock 67 = .ok (.iconst 0, 1) := by decide +kernel
theorem dL_isBlock_68 : decode cL_isBlock 68 = .ok (.ireturn, 1) := by decide +kernel
theorem dL_isProgram_0 : decode cL_isProgram 0 = .ok (.aload_n 0, 1) := by decide +kernel
theorem dL_isProgram_1 : decode cL_isProgram 1 = .ok (.aload_n 1, 1) := by decide +kernel
theorem dL_isProgram_2 : decode cL_isProgram 2 = .ok (.iload_n 2, 1) := by decide +kernel
theorem dL_isProgram_3 : decode cL_isProgram 3 = .ok (.iconst 5, 1) := by decide +kernel
theorem dL_isProgram_4 : decode cL_isProgram 4 = .ok (.iload_n 3, 1) := by decide +kernel
theorem dL_isProgram_5 : decode cL_isProgram 5 = .ok (.iconst 4, 1) := by decide +kernel
theorem dL_isProgram_6 : decode cL_isProgram 6 = .ok (.irem, 1) := by decide +kernel
theorem dL_isProgram_7 : decode cL_isProgram 7 = .ok (.invokestatic 120, 3) := by decide +kernel
theorem dL_isProgram_10 : decode cL_isProgram 10 = .ok (.ifCond .eq 83, 3) := by decide +kernel
theorem dL_isProgram_13 : decode cL_isProgram 13 = .ok (.aload_n 0, 1) := by decide +kernel
theorem dL_isProgram_14 : decode cL_isProgram 14 = .ok (.aload_n 1, 1) := by decide +kernel
theorem dL_isProgram_15 : decode cL_isProgram 15 = .ok (.iload_n 2, 1) := by decide +kernel
theorem dL_isProgram_16 : decode cL_isProgram 16 = .ok (.iconst 2, 1) := by decide +kernel
theorem dL_isProgram_17 : decode cL_isProgram 17 = .ok (.iload_n 3, 1) := by decide +kernel
theorem dL_isProgram_18 : decode cL_isProgram 18 = .ok (.iconst 4, 1) := by decide +kernel
theorem dL_isProgram_19 : decode cL_isProgram 19 = .ok (.idiv, 1) := by decide +kernel
theorem dL_isProgram_20 : decode cL_isProgram 20 = .ok (.bipush 12, 2) := by decide +kernel
theorem dL_isProgram_22 : decode cL_isProgram 22 = .ok (.irem, 1) := by decide +kernel
theorem dL_isProgram_23 : decode cL_isProgram 23 = .ok (.invokestatic 120, 3) := by decide +kernel
theorem dL_isProgram_26 : decode cL_isProgram 26 = .ok (.ifCond .eq 67, 3) := by decide +kernel
theorem dL_isProgram_29 : decode cL_isProgram 29 = .ok (.aload_n 0, 1) := by decide +kernel
theorem dL_isProgram_30 : decode cL_isProgram 30 = .ok (.aload_n 1, 1) := by decide +kernel
theorem dL_isProgram_31 : decode cL_isProgram 31 = .ok (.iload_n 2, 1) := by decide +kernel
theorem dL_isProgram_32 : decode cL_isProgram 32 = .ok (.iconst 3, 1) := by decide +kernel
theorem dL_isProgram_33 : decode cL_isProgram 33 = .ok (.iload_n 3, 1) := by decide +kernel
theorem dL_isProgram_34 : decode cL_isProgram 34 = .ok (.bipush 48, 2) := by decide +kernel
theorem dL_isProgram_36 : decode cL_isProgram 36 = .ok (.idiv, 1) := by decide +kernel
theorem dL_isProgram_37 : decode cL_isProgram 37 = .ok (.iconst 4, 1) := by decide +kernel
theorem dL_isProgram_38 : decode cL_isProgram 38 = .ok (.irem, 1) := by decide +kernel
theorem dL_isProgram_39 : decode cL_isProgram 39 = .ok (.invokestatic 120, 3) := by decide +kernel
theorem dL_isProgram_42 : decode cL_isProgram 42 = .ok (.ifCond .eq 51, 3) := by decide +kernel
theorem dL_isProgram_45 : decode cL_isProgram 45 = .ok (.aload_n 0, 1) := by decide +kernel
theorem dL_isProgram_46 : decode cL_isProgram 46 = .ok (.aload_n 1, 1) := by decide +kernel
theorem dL_isProgram_47 : decode cL_isProgram 47 = .ok (.iload_n 2, 1) := by decide +kernel
theorem dL_isProgram_48 : decode cL_isProgram 48 = .ok (.iconst 0, 1) := by decide +kernel
theorem dL_isProgram_49 : decode cL_isProgram 49 = .ok (.iload_n 3, 1) := by decide +kernel
theorem dL_isProgram_50 : decode cL_isProgram 50 = .ok (.sipush 192, 3) := by decide +kernel
theorem dL_isProgram_53 : decode cL_isProgram 53 = .ok (.idiv, 1) := by decide +kernel
theorem dL_isProgram_54 : decode cL_isProgram 54 = .ok (.bipush 7, 2) := by decide +kernel
theorem dL_isProgram_56 : decode cL_isProgram 56 = .ok (.irem, 1) := by decide +kernel
theorem dL_isProgram_57 : decode cL_isProgram 57 = .ok (.ifCond .ne 7, 3) := by decide +kernel
theorem dL_isProgram_60 : decode cL_isProgram 60 = .ok (.iconst 0, 1) := by decide +kernel
theorem dL_isProgram_61 : decode cL_isProgram 61 = .ok (.goto 4, 3) := by decide +kernel
theorem dL_isProgram_64 : decode cL_isProgram 64 = .ok (.iconst 1, 1) := by decide +kernel
theorem dL_isProgram_65 : decode cL_isProgram 65 = .ok (.invokestatic 120, 3) := by decide +kernel
theorem dL_isProgram_68 : decode cL_isProgram 68 = .ok (.ifCond .eq 25, 3) := by decide +kernel
theorem dL_isProgram_71 : decode cL_isProgram 71 = .ok (.aload_n 0, 1) := by decide +kernel
theorem dL_isProgram_72 : decode cL_isProgram 72 = .ok (.aload_n 1, 1) := by decide +kernel
theorem dL_isProgram_73 : decode cL_isProgram 73 = .ok (.iload_n 2, 1) := by decide +kernel
theorem dL_isProgram_74 : decode cL_isProgram 74 = .ok (.iconst 4, 1) := by decide +kernel
theorem dL_isProgram_75 : decode cL_isProgram 75 = .ok (.iload_n 3, 1) := by decide +kernel
theorem dL_isProgram_76 : decode cL_isProgram 76 = .ok (.sipush 1344, 3) := by decide +kernel
theorem dL_isProgram_79 : decode cL_isProgram 79 = .ok (.idiv, 1) := by decide +kernel
theorem dL_isProgram_80 : decode cL_isProgram 80 = .ok (.bipush 9, 2) := by decide +kernel
theorem dL_isProgram_82 : decode cL_isProgram 82 = .ok (.irem, 1) := by decide +kernel
theorem dL_isProgram_83 : decode cL_isProgram 83 = .ok (.invokestatic 120, 3) := by decide +kernel
theorem dL_isProgram_86 : decode cL_isProgram 86 = .ok (.ifCond .eq 7, 3) := by decide +kernel
theorem dL_isProgram_89 : decode cL_isProgram 89 = .ok (.iconst 1, 1) := by decide +kernel
theorem dL_isProgram_90 : decode cL_isProgram 90 = .ok (.goto 4, 3) := by decide +kernel
theorem dL_isProgram_93 : decode cL_isProgram 93 = .ok (.iconst 0, 1) := by decide +kernel
theorem dL_isProgram_94 : decode cL_isProgram 94 = .ok (.istore 4, 2) := by decide +kernel
theorem dL_isProgram_96 : decode cL_isProgram 96 = .ok (.iload_n 3, 1) := by decide +kernel
theorem dL_isProgram_97 : decode cL_isProgram 97 = .ok (.sipush 12096, 3) := by decide +kernel
theorem dL_isProgram_100 : decode cL_isProgram 100 = .ok (.idiv, 1) := by decide +kernel
theorem dL_isProgram_101 : decode cL_isProgram 101 = .ok (.istore_n 3, 1) := by decide +kernel
theorem dL_isProgram_102 : decode cL_isProgram 102 = .ok (.iload 4, 2) := by decide +kernel
theorem dL_isProgram_104 : decode cL_isProgram 104 = .ok (.ifCond .eq 83, 3) := by decide +kernel
theorem dL_isProgram_107 : decode cL_isProgram 107 = .ok (.iload_n 2, 1) := by decide +kernel
theorem dL_isProgram_108 : decode cL_isProgram 108 = .ok (.ifCond .eq 25, 3) := by decide +kernel
theorem dL_isProgram_111 : decode cL_isProgram 111 = .ok (.iload_n 3, 1) := by decide +kernel
theorem dL_isProgram_112 : decode cL_isProgram 112 = .ok (.iconst 3, 1) := by decide +kernel
theorem dL_isProgram_113 : decode cL_isProgram 113 = .ok (.irem, 1) := by decide +kernel
theorem dL_isProgram_114 : decode cL_isProgram 114 = .ok (.ifCond .gt 19, 3) := by decide +kernel
theorem dL_isProgram_117 : decode cL_isProgram 117 = .ok (.aload_n 0, 1) := by decide +kernel
theorem dL_isProgram_118 : decode cL_isProgram 118 = .ok (.aload_n 1, 1) := by decide +kernel
theorem dL_isProgram_119 : decode cL_isProgram 119 = .ok (.iload_n 2, 1) := by decide +kernel
theorem dL_isProgram_120 : decode cL_isProgram 120 = .ok (.bipush 6, 2) := by decide +kernel
theorem dL_isProgram_122 : decode cL_isProgram 122 = .ok (.iload_n 3, 1) := by decide +kernel
theorem dL_isProgram_123 : decode cL_isProgram 123 = .ok (.iconst 3, 1) := by decide +kernel
theorem dL_isProgram_124 : decode cL_isProgram 124 = .ok (.idiv, 1) := by decide +kernel
theorem dL_isProgram_125 : decode cL_isProgram 125 = .ok (.iload_n 2, 1) := by decide +kernel
theorem dL_isProgram_126 : decode cL_isProgram 126 = .ok (.irem, 1) := by decide +kernel
theorem dL_isProgram_127 : decode cL_isProgram 127 = .ok (.invokestatic 120, 3) := by decide +kernel
theorem dL_isProgram_130 : decode cL_isProgram 130 = .ok (.ifCond .eq 57, 3) := by decide +kernel
theorem dL_isProgram_133 : decode cL_isProgram 133 = .ok (.aload_n 0, 1) := by decide +kernel
theorem dL_isProgram_134 : decode cL_isProgram 134 = .ok (.aload_n 1, 1) := by decide +kernel
theorem dL_isProgram_135 : decode cL_isProgram 135 = .ok (.iload_n 2, 1) := by decide +kernel
theorem dL_isProgram_136 : decode cL_isProgram 136 = .ok (.iconst 1, 1) := by decide +kernel
theorem dL_isProgram_137 : decode cL_isProgram 137 = .ok (.iload_n 3, 1) := by decide +kernel
theorem dL_isProgram_138 : decode cL_isProgram 138 = .ok (.bipush 9, 2) := by decide +kernel
theorem dL_isProgram_140 : decode cL_isProgram 140 = .ok (.idiv, 1) := by decide +kernel
theorem dL_isProgram_141 : decode cL_isProgram 141 = .ok (.iconst 2, 1) := by decide +kernel
theorem dL_isProgram_142 : decode cL_isProgram 142 = .ok (.irem, 1) := by decide +kernel
theorem dL_isProgram_143 : decode cL_isProgram 143 = .ok (.invokestatic 120, 3) := by decide +kernel
theorem dL_isProgram_146 : decode cL_isProgram 146 = .ok (.ifCond .eq 41, 3) := by decide +kernel
theorem dL_isProgram_149 : decode cL_isProgram 149 = .ok (.aload_n 0, 1) := by decide +kernel
theorem dL_isProgram_150 : decode cL_isProgram 150 = .ok (.aload_n 1, 1) := by decide +kernel
theorem dL_isProgram_151 : decode cL_isProgram 151 = .ok (.iload_n 2, 1) := by decide +kernel
theorem dL_isProgram_152 : decode cL_isProgram 152 = .ok (.iconst 2, 1) := by decide +kernel
theorem dL_isProgram_153 : decode cL_isProgram 153 = .ok (.iload_n 3, 1) := by decide +kernel
theorem dL_isProgram_154 : decode cL_isProgram 154 = .ok (.bipush 18, 2) := by decide +kernel
theorem dL_isProgram_156 : decode cL_isProgram 156 = .ok (.idiv, 1) := by decide +kernel
theorem dL_isProgram_157 : decode cL_isProgram 157 = .ok (.bipush 12, 2) := by decide +kernel
theorem dL_isProgram_159 : decode cL_isProgram 159 = .ok (.irem, 1) := by decide +kernel
theorem dL_isProgram_160 : decode cL_isProgram 160 = .ok (.iload_n 3, 1) := by decide +kernel
theorem dL_isProgram_161 : decode cL_isProgram 161 = .ok (.bipush 9, 2) := by decide +kernel
theorem dL_isProgram_163 : decode cL_isProgram 163 = .ok (.idiv, 1) := by decide +kernel
theorem dL_isProgram_164 : decode cL_isProgram 164 = .ok (.iconst 2, 1) := by decide +kernel
theorem dL_isProgram_165 : decode cL_isProgram 165 = .ok (.irem, 1) := by decide +kernel
theorem dL_isProgram_166 : decode cL_isProgram 166 = .ok (.iconst 1, 1) := by decide +kernel
theorem dL_isProgram_167 : decode cL_isProgram 167 = .ok (.if_icmp .ne 8, 3) := by decide +kernel
theorem dL_isProgram_170 : decode cL_isProgram 170 = .ok (.bipush 6, 2) := by decide +kernel
theorem dL_isProgram_172 : decode cL_isProgram 172 = .ok (.goto 4, 3) := by decide +kernel
theorem dL_isProgram_175 : decode cL_isProgram 175 = .ok (.iconst 0, 1) := by decide +kernel
theorem dL_isProgram_176 : decode cL_isProgram 176 = .ok (.isub, 1) := by decide +kernel
theorem dL_isProgram_177 : decode cL_isProgram 177 = .ok (.invokestatic 120, 3) := by decide +kernel
theorem dL_isProgram_180 : decode cL_isProgram 180 = .ok (.ifCond .eq 7, 3) := by decide +kernel
theorem dL_isProgram_183 : decode cL_isProgram 183 = .ok (.iconst 1, 1) := by decide +kernel
theorem dL_isProgram_184 : decode cL_isProgram 184 = .ok (.goto 4, 3) := by decide +kernel
theorem dL_isProgram_187 : decode cL_isProgram 187 = .ok (.iconst 0, 1) := by decide +kernel
theorem dL_isProgram_188 : decode cL_isProgram 188 = .ok (.istore 4, 2) := by decide +kernel
theorem dL_isProgram_190 : decode cL_isProgram 190 = .ok (.iload 4, 2) := by decide +kernel
theorem dL_isProgram_192 : decode cL_isProgram 192 = .ok (.ifCond .eq 58, 3) := by decide +kernel
theorem dL_isProgram_195 : decode cL_isProgram 195 = .ok (.aload_n 0, 1) := by decide +kernel
theorem dL_isProgram_196 : decode cL_isProgram 196 = .ok (.aload_n 1, 1) := by decide +kernel
theorem dL_isProgram_197 : decode cL_isProgram 197 = .ok (.iload_n 2, 1) := by decide +kernel
theorem dL_isProgram_198 : decode cL_isProgram 198 = .ok (.iconst 1, 1) := by decide +kernel
theorem dL_isProgram_199 : decode cL_isProgram 199 = .ok (.iconst 0, 1) := by decide +kernel
theorem dL_isProgram_200 : decode cL_isProgram 200 = .ok (.invokestatic 120, 3) := by decide +kernel
theorem dL_isProgram_203 : decode cL_isProgram 203 = .ok (.ifCond .eq 47, 3) := by decide +kernel
theorem dL_isProgram_206 : decode cL_isProgram 206 = .ok (.aload_n 0, 1) := by decide +kernel
theorem dL_isProgram_207 : decode cL_isProgram 207 = .ok (.aload_n 1, 1) := by decide +kernel
theorem dL_isProgram_208 : decode cL_isProgram 208 = .ok (.iload_n 2, 1) := by decide +kernel
theorem dL_isProgram_209 : decode cL_isProgram 209 = .ok (.iconst 3, 1) := by decide +kernel
theorem dL_isProgram_210 : decode cL_isProgram 210 = .ok (.iload_n 3, 1) := by decide +kernel
theorem dL_isProgram_211 : decode cL_isProgram 211 = .ok (.sipush 216, 3) := by decide +kernel
theorem dL_isProgram_214 : decode cL_isProgram 214 = .ok (.idiv, 1) := by decide +kernel
theorem dL_isProgram_215 : decode cL_isProgram 215 = .ok (.iconst 4, 1) := by decide +kernel
theorem dL_isProgram_216 : decode cL_isProgram 216 = .ok (.irem, 1) := by decide +kernel
theorem dL_isProgram_217 : decode cL_isProgram 217 = .ok (.invokestatic 120, 3) := by decide +kernel
theorem dL_isProgram_220 : decode cL_isProgram 220 = .ok (.ifCond .eq 30, 3) := by decide +kernel
theorem dL_isProgram_223 : decode cL_isProgram 223 = .ok (.iload_n 3, 1) := by decide +kernel
theorem dL_isProgram_224 : decode cL_isProgram 224 = .ok (.sipush 864, 3) := by decide +kernel
theorem dL_isProgram_227 : decode cL_isProgram 227 = .ok (.idiv, 1) := by decide +kernel
theorem dL_isProgram_228 : decode cL_isProgram 228 = .ok (.bipush 8, 2) := by decide +kernel
theorem dL_isProgram_230 : decode cL_isProgram 230 = .ok (.irem, 1) := by decide +kernel
theorem dL_isProgram_231 : decode cL_isProgram 231 = .ok (.ifCond .eq 15, 3) := by decide +kernel
theorem dL_isProgram_234 : decode cL_isProgram 234 = .ok (.aload_n 0, 1) := by decide +kernel
theorem dL_isProgram_235 : decode cL_isProgram 235 = .ok (.aload_n 1, 1) := by decide +kernel
theorem dL_isProgram_236 : decode cL_isProgram 236 = .ok (.iload_n 2, 1) := by decide +kernel
theorem dL_isProgram_237 : decode cL_isProgram 237 = .ok (.iconst 4, 1) := by decide +kernel
theorem dL_isProgram_238 : decode cL_isProgram 238 = .ok (.bipush 9, 2) := by decide +kernel
theorem dL_isProgram_240 : decode cL_isProgram 240 = .ok (.invokestatic 120, 3) := by decide +kernel
theorem dL_isProgram_243 : decode cL_isProgram 243 = .ok (.ifCond .eq 7, 3) := by decide +kernel
theorem dL_isProgram_246 : decode cL_isProgram 246 = .ok (.iconst 1, 1) := by decide +kernel
theorem dL_isProgram_247 : decode cL_isProgram 247 = .ok (.goto 4, 3) := by decide +kernel
theorem dL_isProgram_250 : decode cL_isProgram 250 = .ok (.iconst 0, 1) := by decide +kernel
theorem dL_isProgram_251 : decode cL_isProgram 251 = .ok (.ireturn, 1) := by decide +kernel
theorem dL_isTold_0 : decode cL_isTold 0 = .ok (.iload 4, 2) := by decide +kernel
theorem dL_isTold_2 : decode cL_isTold 2 = .ok (.iconst 4, 1) := by decide +kernel
theorem dL_isTold_3 : decode cL_isTold 3 = .ok (.irem, 1) := by decide +kernel
theorem dL_isTold_4 : decode cL_isTold 4 = .ok (.istore 5, 2) := by decide +kernel
theorem dL_isTold_6 : decode cL_isTold 6 = .ok (.iload_n 3, 1) := by decide +kernel
theorem dL_isTold_7 : decode cL_isTold 7 = .ok (.ifCond .ne 73, 3) := by decide +kernel
theorem dL_isTold_10 : decode cL_isTold 10 = .ok (.aload_n 1, 1) := by decide +kernel
theorem dL_isTold_11 : decode cL_isTold 11 = .ok (.bipush 9, 2) := by decide +kernel
theorem dL_isTold_13 : decode cL_isTold 13 = .ok (.iload 5, 2) := by decide +kernel
theorem dL_isTold_15 : decode cL_isTold 15 = .ok (.imul, 1) := by decide +kernel
theorem dL_isTold_16 : decode cL_isTold 16 = .ok (.iconst 4, 1) := by decide +kernel
theorem dL_isTold_17 : decode cL_isTold 17 = .ok (.iadd, 1) := by decide +kernel
theorem dL_isTold_18 : decode cL_isTold 18 = .ok (.iload 4, 2) := by decide +kernel
theorem dL_isTold_20 : decode cL_isTold 20 = .ok (.iconst 4, 1) := by decide +kernel
theorem dL_isTold_21 : decode cL_isTold 21 = .ok (.idiv, 1) := by decide +kernel
theorem dL_isTold_22 : decode cL_isTold 22 = .ok (.iconst 4, 1) := by decide +kernel
theorem dL_isTold_23 : decode cL_isTold 23 = .ok (.irem, 1) := by decide +kernel
theorem dL_isTold_24 : decode cL_isTold 24 = .ok (.ifCond .ne 7, 3) := by decide +kernel
theorem dL_isTold_27 : decode cL_isTold 27 = .ok (.iconst 0, 1) := by decide +kernel
theorem dL_isTold_28 : decode cL_isTold 28 = .ok (.goto 4, 3) := by decide +kernel
theorem dL_isTold_31 : decode cL_isTold 31 = .ok (.iconst 1, 1) := by decide +kernel
theorem dL_isTold_32 : decode cL_isTold 32 = .ok (.iastore, 1) := by decide +kernel
theorem dL_isTold_33 : decode cL_isTold 33 = .ok (.aload_n 0, 1) := by decide +kernel
theorem dL_isTold_34 : decode cL_isTold 34 = .ok (.iload 5, 2) := by decide +kernel
theorem dL_isTold_36 : decode cL_isTold 36 = .ok (.iload 4, 2) := by decide +kernel
theorem dL_isTold_38 : decode cL_isTold 38 = .ok (.iconst 4, 1) := by decide +kernel
theorem dL_isTold_39 : decode cL_isTold 39 = .ok (.idiv, 1) := by decide +kernel
theorem dL_isTold_40 : decode cL_isTold 40 = .ok (.iconst 4, 1) := by decide +kernel
theorem dL_isTold_41 : decode cL_isTold 41 = .ok (.irem, 1) := by decide +kernel
theorem dL_isTold_42 : decode cL_isTold 42 = .ok (.ifCond .le 7, 3) := by decide +kernel
theorem dL_isTold_45 : decode cL_isTold 45 = .ok (.iconst 1, 1) := by decide +kernel
theorem dL_isTold_46 : decode cL_isTold 46 = .ok (.goto 4, 3) := by decide +kernel
theorem dL_isTold_49 : decode cL_isTold 49 = .ok (.iconst 0, 1) := by decide +kernel
theorem dL_isTold_50 : decode cL_isTold 50 = .ok (.invokevirtual 124, 3) := by decide +kernel
theorem dL_isTold_53 : decode cL_isTold 53 = .ok (.aload_n 1, 1) := by decide +kernel
theorem dL_isTold_54 : decode cL_isTold 54 = .ok (.iconst 4, 1) := by decide +kernel
theorem dL_isTold_55 : decode cL_isTold 55 = .ok (.iaload, 1) := by decide +kernel
theorem dL_isTold_56 : decode cL_isTold 56 = .ok (.aload_n 1, 1) := by decide +kernel
theorem dL_isTold_57 : decode cL_isTold 57 = .ok (.bipush 13, 2) := by decide +kernel
theorem dL_isTold_59 : decode cL_isTold 59 = .ok (.iaload, 1) := by decide +kernel
theorem dL_isTold_60 : decode cL_isTold 60 = .ok (.iadd, 1) := by decide +kernel
theorem dL_isTold_61 : decode cL_isTold 61 = .ok (.aload_n 1, 1) := by decide +kernel
theorem dL_isTold_62 : decode cL_isTold 62 = .ok (.bipush 22, 2) := by decide +kernel
theorem dL_isTold_64 : decode cL_isTold 64 = .ok (.iaload, 1) := by decide +kernel
theorem dL_isTold_65 : decode cL_isTold 65 = .ok (.iadd, 1) := by decide +kernel
theorem dL_isTold_66 : decode cL_isTold 66 = .ok (.aload_n 1, 1) := by decide +kernel
theorem dL_isTold_67 : decode cL_isTold 67 = .ok (.bipush 31, 2) := by decide +kernel
theorem dL_isTold_69 : decode cL_isTold 69 = .ok (.iaload, 1) := by decide +kernel
theorem dL_isTold_70 : decode cL_isTold 70 = .ok (.iadd, 1) := by decide +kernel
theorem dL_isTold_71 : decode cL_isTold 71 = .ok (.if_icmp .ne 7, 3) := by decide +kernel
theorem dL_isTold_74 : decode cL_isTold 74 = .ok (.iconst 1, 1) := by decide +kernel
theorem dL_isTold_75 : decode cL_isTold 75 = .ok (.goto 4, 3) := by decide +kernel
theorem dL_isTold_78 : decode cL_isTold 78 = .ok (.iconst 0, 1) := by decide +kernel
theorem dL_isTold_79 : decode cL_isTold 79 = .ok (.ireturn, 1) := by decide +kernel
theorem dL_isTold_80 : decode cL_isTold 80 = .ok (.iload_n 3, 1) := by decide +kernel
theorem dL_isTold_81 : decode cL_isTold 81 = .ok (.iconst 1, 1) := by decide +kernel
theorem dL_isTold_82 : decode cL_isTold 82 = .ok (.if_icmp .ne 60, 3) := by decide +kernel
theorem dL_isTold_85 : decode cL_isTold 85 = .ok (.iload 4, 2) := by decide +kernel
theorem dL_isTold_87 : decode cL_isTold 87 = .ok (.iconst 4, 1) := by decide +kernel
theorem dL_isTold_88 : decode cL_isTold 88 = .ok (.idiv, 1) := by decide +kernel
theorem dL_isTold_89 : decode cL_isTold 89 = .ok (.bipush 12, 2) := by decide +kernel
theorem dL_isTold_91 : decode cL_isTold 91 = .ok (.irem, 1) := by decide +kernel
theorem dL_isTold_92 : decode cL_isTold 92 = .ok (.istore 6, 2) := by decide +kernel
theorem dL_isTold_94 : decode cL_isTold 94 = .ok (.aload_n 2, 1) := by decide +kernel
theorem dL_isTold_95 : decode cL_isTold 95 = .ok (.iconst 4, 1) := by decide +kernel
theorem dL_isTold_96 : decode cL_isTold 96 = .ok (.iload 6, 2) := by decide +kernel
theorem dL_isTold_98 : decode cL_isTold 98 = .ok (.iadd, 1) := by decide +kernel
theorem dL_isTold_99 : decode cL_isTold 99 = .ok (.iaload, 1) := by decide +kernel
theorem dL_isTold_100 : decode cL_isTold 100 = .ok (.istore 7, 2) := by decide +kernel
theorem dL_isTold_102 : decode cL_isTold 102 = .ok (.aload_n 2, 1) := by decide +kernel
theorem dL_isTold_103 : decode cL_isTold 103 = .ok (.iconst 4, 1) := by decide +kernel
theorem dL_isTold_104 : decode cL_isTold 104 = .ok (.iload 6, 2) := by decide +kernel
theorem dL_isTold_106 : decode cL_isTold 106 = .ok (.iadd, 1) := by decide +kernel
theorem dL_isTold_107 : decode cL_isTold 107 = .ok (.iload 4, 2) := by decide +kernel
theorem dL_isTold_109 : decode cL_isTold 109 = .ok (.bipush 48, 2) := by decide +kernel
theorem dL_isTold_111 : decode cL_isTold 111 = .ok (.idiv, 1) := by decide +kernel
theorem dL_isTold_112 : decode cL_isTold 112 = .ok (.bipush 101, 2) := by decide +kernel
theorem dL_isTold_114 : decode cL_isTold 114 = .ok (.irem, 1) := by decide +kernel
theorem dL_isTold_115 : decode cL_isTold 115 = .ok (.bipush 50, 2) := by decide +kernel
theorem dL_isTold_117 : decode cL_isTold 117 = .ok (.isub, 1) := by decide +kernel
theorem dL_isTold_118 : decode cL_isTold 118 = .ok (.iastore, 1) := by decide +kernel
theorem dL_isTold_119 : decode cL_isTold 119 = .ok (.aload_n 0, 1) := by decide +kernel
theorem dL_isTold_120 : decode cL_isTold 120 = .ok (.iload 6, 2) := by decide +kernel
theorem dL_isTold_122 : decode cL_isTold 122 = .ok (.aload_n 2, 1) := by decide +kernel
theorem dL_isTold_123 : decode cL_isTold 123 = .ok (.iconst 4, 1) := by decide +kernel
theorem dL_isTold_124 : decode cL_isTold 124 = .ok (.iload 6, 2) := by decide +kernel
theorem dL_isTold_126 : decode cL_isTold 126 = .ok (.iadd, 1) := by decide +kernel
theorem dL_isTold_127 : decode cL_isTold 127 = .ok (.iaload, 1) := by decide +kernel
theorem dL_isTold_128 : decode cL_isTold 128 = .ok (.invokevirtual 128, 3) := by decide +kernel
theorem dL_isTold_131 : decode cL_isTold 131 = .ok (.iload 7, 2) := by decide +kernel
theorem dL_isTold_133 : decode cL_isTold 133 = .ok (.if_icmp .ne 7, 3) := by decide +kernel
theorem dL_isTold_136 : decode cL_isTold 136 = .ok (.iconst 1, 1) := by decide +kernel
theorem dL_isTold_137 : decode cL_isTold 137 = .ok (.goto 4, 3) := by decide +kernel
theorem dL_isTold_140 : decode cL_isTold 140 = .ok (.iconst 0, 1) := by decide +kernel
theorem dL_isTold_141 : decode cL_isTold 141 = .ok (.ireturn, 1) := by decide +kernel
theorem dL_isTold_142 : decode cL_isTold 142 = .ok (.iload_n 3, 1) := by decide +kernel
theorem dL_isTold_143 : decode cL_isTold 143 = .ok (.iconst 2, 1) := by decide +kernel
theorem dL_isTold_144 : decode cL_isTold 144 = .ok (.if_icmp .ne 45, 3) := by decide +kernel
theorem dL_isTold_147 : decode cL_isTold 147 = .ok (.aload_n 2, 1) := by decide +kernel
theorem dL_isTold_148 : decode cL_isTold 148 = .ok (.iconst 2, 1) := by decide +kernel
theorem dL_isTold_149 : decode cL_isTold 149 = .ok (.aload_n 2, 1) := by decide +kernel
theorem dL_isTold_150 : decode cL_isTold 150 = .ok (.iconst 0, 1) := by decide +kernel
theorem dL_isTold_151 : decode cL_isTold 151 = .ok (.iaload, 1) := by decide +kernel
theorem dL_isTold_152 : decode cL_isTold 152 = .ok (.iconst 1, 1) := by decide +kernel
theorem dL_isTold_153 : decode cL_isTold 153 = .ok (.iadd, 1) := by decide +kernel
theorem dL_isTold_154 : decode cL_isTold 154 = .ok (.iastore, 1) := by decide +kernel
theorem dL_isTold_155 : decode cL_isTold 155 = .ok (.aload_n 2, 1) := by decide +kernel
theorem dL_isTold_156 : decode cL_isTold 156 = .ok (.iconst 3, 1) := by decide +kernel
theorem dL_isTold_157 : decode cL_isTold 157 = .ok (.iload 4, 2) := by decide +kernel
theorem dL_isTold_159 : decode cL_isTold 159 = .ok (.iconst 4, 1) := by decide +kernel
theorem dL_isTold_160 : decode cL_isTold 160 = .ok (.idiv, 1) := by decide +kernel
theorem dL_isTold_161 : decode cL_isTold 161 = .ok (.bipush 31, 2) := by decide +kernel
theorem dL_isTold_163 : decode cL_isTold 163 = .ok (.irem, 1) := by decide +kernel
theorem dL_isTold_164 : decode cL_isTold 164 = .ok (.iastore, 1) := by decide +kernel
theorem dL_isTold_165 : decode cL_isTold 165 = .ok (.aload_n 0, 1) := by decide +kernel
theorem dL_isTold_166 : decode cL_isTold 166 = .ok (.iconst 2, 1) := by decide +kernel
theorem dL_isTold_167 : decode cL_isTold 167 = .ok (.aload_n 2, 1) := by decide +kernel
theorem dL_isTold_168 : decode cL_isTold 168 = .ok (.iconst 3, 1) := by decide +kernel
theorem dL_isTold_169 : decode cL_isTold 169 = .ok (.iaload, 1) := by decide +kernel
theorem dL_isTold_170 : decode cL_isTold 170 = .ok (.invokevirtual 131, 3) := by decide +kernel
theorem dL_isTold_173 : decode cL_isTold 173 = .ok (.aload_n 2, 1) := by decide +kernel
theorem dL_isTold_174 : decode cL_isTold 174 = .ok (.iconst 0, 1) := by decide +kernel
theorem dL_isTold_175 : decode cL_isTold 175 = .ok (.iaload, 1) := by decide +kernel
theorem dL_isTold_176 : decode cL_isTold 176 = .ok (.sipush 999, 3) := by decide +kernel
theorem dL_isTold_179 : decode cL_isTold 179 = .ok (.iadd, 1) := by decide +kernel
theorem dL_isTold_180 : decode cL_isTold 180 = .ok (.if_icmp .ne 7, 3) := by decide +kernel
theorem dL_isTold_183 : decode cL_isTold 183 = .ok (.iconst 1, 1) := by decide +kernel
theorem dL_isTold_184 : decode cL_isTold 184 = .ok (.goto 4, 3) := by decide +kernel
theorem dL_isTold_187 : decode cL_isTold 187 = .ok (.iconst 0, 1) := by decide +kernel
theorem dL_isTold_188 : decode cL_isTold 188 = .ok (.ireturn, 1) := by decide +kernel
theorem dL_isTold_189 : decode cL_isTold 189 = .ok (.iload_n 3, 1) := by decide +kernel
theorem dL_isTold_190 : decode cL_isTold 190 = .ok (.iconst 3, 1) := by decide +kernel
theorem dL_isTold_191 : decode cL_isTold 191 = .ok (.if_icmp .ne 88, 3) := by decide +kernel
theorem dL_isTold_194 : decode cL_isTold 194 = .ok (.bipush 16, 2) := by decide +kernel
theorem dL_isTold_196 : decode cL_isTold 196 = .ok (.bipush 6, 2) := by decide +kernel
theorem dL_isTold_198 : decode cL_isTold 198 = .ok (.iload 4, 2) := by decide +kernel
theorem dL_isTold_200 : decode cL_isTold 200 = .ok (.iconst 2, 1) := by decide +kernel
theorem dL_isTold_201 : decode cL_isTold 201 = .ok (.irem, 1) := by decide +kernel
theorem dL_isTold_202 : decode cL_isTold 202 = .ok (.imul, 1) := by decide +kernel
theorem dL_isTold_203 : decode cL_isTold 203 = .ok (.iadd, 1) := by decide +kernel
theorem dL_isTold_204 : decode cL_isTold 204 = .ok (.istore 6, 2) := by decide +kernel
theorem dL_isTold_206 : decode cL_isTold 206 = .ok (.aload_n 2, 1) := by decide +kernel
theorem dL_isTold_207 : decode cL_isTold 207 = .ok (.iload 6, 2) := by decide +kernel
theorem dL_isTold_209 : decode cL_isTold 209 = .ok (.iconst 4, 1) := by decide +kernel
theorem dL_isTold_210 : decode cL_isTold 210 = .ok (.iadd, 1) := by decide +kernel
theorem dL_isTold_211 : decode cL_isTold 211 = .ok (.iload 4, 2) := by decide +kernel
theorem dL_isTold_213 : decode cL_isTold 213 = .ok (.iconst 4, 1) := by decide +kernel
theorem dL_isTold_214 : decode cL_isTold 214 = .ok (.idiv, 1) := by decide +kernel
theorem dL_isTold_215 : decode cL_isTold 215 = .ok (.bipush 100, 2) := by decide +kernel
theorem dL_isTold_217 : decode cL_isTold 217 = .ok (.irem, 1) := by decide +kernel
theorem dL_isTold_218 : decode cL_isTold 218 = .ok (.iastore, 1) := by decide +kernel
theorem dL_isTold_219 : decode cL_isTold 219 = .ok (.aload_n 2, 1) := by decide +kernel
theorem dL_isTold_220 : decode cL_isTold 220 = .ok (.iload 6, 2) := by decide +kernel
theorem dL_isTold_222 : decode cL_isTold 222 = .ok (.iconst 5, 1) := by decide +kernel
theorem dL_isTold_223 : decode cL_isTold 223 = .ok (.iadd, 1) := by decide +kernel
theorem dL_isTold_224 : decode cL_isTold 224 = .ok (.iconst 1, 1) := by decide +kernel
theorem dL_isTold_225 : decode cL_isTold 225 = .ok (.iload 4, 2) := by decide +kernel
theorem dL_isTold_227 : decode cL_isTold 227 = .ok (.sipush 400, 3) := by decide +kernel
theorem dL_isTold_230 : decode cL_isTold 230 = .ok (.idiv, 1) := by decide +kernel
theorem dL_isTold_231 : decode cL_isTold 231 = .ok (.bipush 9, 2) := by decide +kernel
theorem dL_isTold_233 : decode cL_isTold 233 = .ok (.irem, 1) := by decide +kernel
theorem dL_isTold_234 : decode cL_isTold 234 = .ok (.iadd, 1) := by decide +kernel
theorem dL_isTold_235 : decode cL_isTold 235 = .ok (.iastore, 1) := by decide +kernel
theorem dL_isTold_236 : decode cL_isTold 236 = .ok (.aload_n 0, 1) := by decide +kernel
theorem dL_isTold_237 : decode cL_isTold 237 = .ok (.iconst 0, 1) := by decide +kernel
theorem dL_isTold_238 : decode cL_isTold 238 = .ok (.iload 4, 2) := by decide +kernel
theorem dL_isTold_240 : decode cL_isTold 240 = .ok (.iconst 2, 1) := by decide +kernel
theorem dL_isTold_241 : decode cL_isTold 241 = .ok (.irem, 1) := by decide +kernel
theorem dL_isTold_242 : decode cL_isTold 242 = .ok (.aload_n 2, 1) := by decide +kernel
theorem dL_isTold_243 : decode cL_isTold 243 = .ok (.iload 6, 2) := by decide +kernel
theorem dL_isTold_245 : decode cL_isTold 245 = .ok (.iconst 4, 1) := by decide +kernel
theorem dL_isTold_246 : decode cL_isTold 246 = .ok (.iadd, 1) := by decide +kernel
theorem dL_isTold_247 : decode cL_isTold 247 = .ok (.iaload, 1) := by decide +kernel
theorem dL_isTold_248 : decode cL_isTold 248 = .ok (.aload_n 2, 1) := by decide +kernel
theorem dL_isTold_249 : decode cL_isTold 249 = .ok (.iload 6, 2) := by decide +kernel
theorem dL_isTold_251 : decode cL_isTold 251 = .ok (.iconst 5, 1) := by decide +kernel
theorem dL_isTold_252 : decode cL_isTold 252 = .ok (.iadd, 1) := by decide +kernel
theorem dL_isTold_253 : decode cL_isTold 253 = .ok (.iaload, 1) := by decide +kernel
theorem dL_isTold_254 : decode cL_isTold 254 = .ok (.invokevirtual 134, 3) := by decide +kernel
theorem dL_isTold_257 : decode cL_isTold 257 = .ok (.aload_n 2, 1) := by decide +kernel
theorem dL_isTold_258 : decode cL_isTold 258 = .ok (.iload 6, 2) := by decide +kernel
theorem dL_isTold_260 : decode cL_isTold 260 = .ok (.iconst 3, 1) := by decide +kernel
theorem dL_isTold_261 : decode cL_isTold 261 = .ok (.iadd, 1) := by decide +kernel
theorem dL_isTold_262 : decode cL_isTold 262 = .ok (.iaload, 1) := by decide +kernel
theorem dL_isTold_263 : decode cL_isTold 263 = .ok (.aload_n 2, 1) := by decide +kernel
theorem dL_isTold_264 : decode cL_isTold 264 = .ok (.iload 6, 2) := by decide +kernel
theorem dL_isTold_266 : decode cL_isTold 266 = .ok (.iconst 4, 1) := by decide +kernel
theorem dL_isTold_267 : decode cL_isTold 267 = .ok (.iadd, 1) := by decide +kernel
theorem dL_isTold_268 : decode cL_isTold 268 = .ok (.iaload, 1) := by decide +kernel
theorem dL_isTold_269 : decode cL_isTold 269 = .ok (.iadd, 1) := by decide +kernel
theorem dL_isTold_270 : decode cL_isTold 270 = .ok (.if_icmp .ne 7, 3) := by decide +kernel
theorem dL_isTold_273 : decode cL_isTold 273 = .ok (.iconst 1, 1) := by decide +kernel
theorem dL_isTold_274 : decode cL_isTold 274 = .ok (.goto 4, 3) := by decide +kernel
theorem dL_isTold_277 : decode cL_isTold 277 = .ok (.iconst 0, 1) := by decide +kernel
theorem dL_isTold_278 : decode cL_isTold 278 = .ok (.ireturn, 1) := by decide +kernel
theorem dL_isTold_279 : decode cL_isTold 279 = .ok (.iconst 1, 1) := by decide +kernel
theorem dL_isTold_280 : decode cL_isTold 280 = .ok (.iload 4, 2) := by decide +kernel
theorem dL_isTold_282 : decode cL_isTold 282 = .ok (.iconst 4, 1) := by decide +kernel
theorem dL_isTold_283 : decode cL_isTold 283 = .ok (.idiv, 1) := by decide +kernel
theorem dL_isTold_284 : decode cL_isTold 284 = .ok (.iload 4, 2) := by decide +kernel
theorem dL_isTold_286 : decode cL_isTold 286 = .ok (.iconst 2, 1) := by decide +kernel
theorem dL_isTold_287 : decode cL_isTold 287 = .ok (.irem, 1) := by decide +kernel
theorem dL_isTold_288 : decode cL_isTold 288 = .ok (.ifCond .ne 8, 3) := by decide +kernel
theorem dL_isTold_291 : decode cL_isTold 291 = .ok (.bipush 30, 2) := by decide +kernel
theorem dL_isTold_293 : decode cL_isTold 293 = .ok (.goto 6, 3) := by decide +kernel
theorem dL_isTold_296 : decode cL_isTold 296 = .ok (.sipush 500, 3) := by decide +kernel
theorem dL_isTold_299 : decode cL_isTold 299 = .ok (.irem, 1) := by decide +kernel
theorem dL_isTold_300 : decode cL_isTold 300 = .ok (.iadd, 1) := by decide +kernel
theorem dL_isTold_301 : decode cL_isTold 301 = .ok (.istore 6, 2) := by decide +kernel
theorem dL_isTold_303 : decode cL_isTold 303 = .ok (.aload_n 2, 1) := by decide +kernel
theorem dL_isTold_304 : decode cL_isTold 304 = .ok (.iconst 0, 1) := by decide +kernel
theorem dL_isTold_305 : decode cL_isTold 305 = .ok (.dup2, 1) := by decide +kernel
theorem dL_isTold_306 : decode cL_isTold 306 = .ok (.iaload, 1) := by decide +kernel
theorem dL_isTold_307 : decode cL_isTold 307 = .ok (.iload 6, 2) := by decide +kernel
theorem dL_isTold_309 : decode cL_isTold 309 = .ok (.iadd, 1) := by decide +kernel
theorem dL_isTold_310 : decode cL_isTold 310 = .ok (.iastore, 1) := by decide +kernel
theorem dL_isTold_311 : decode cL_isTold 311 = .ok (.aload_n 2, 1) := by decide +kernel
theorem dL_isTold_312 : decode cL_isTold 312 = .ok (.iconst 1, 1) := by decide +kernel
theorem dL_isTold_313 : decode cL_isTold 313 = .ok (.aload_n 2, 1) := by decide +kernel
theorem dL_isTold_314 : decode cL_isTold 314 = .ok (.iconst 1, 1) := by decide +kernel
theorem dL_isTold_315 : decode cL_isTold 315 = .ok (.iaload, 1) := by decide +kernel
theorem dL_isTold_316 : decode cL_isTold 316 = .ok (.iload 6, 2) := by decide +kernel
theorem dL_isTold_318 : decode cL_isTold 318 = .ok (.if_icmp .ge 7, 3) := by decide +kernel
theorem dL_isTold_321 : decode cL_isTold 321 = .ok (.iconst 0, 1) := by decide +kernel
theorem dL_isTold_322 : decode cL_isTold 322 = .ok (.goto 9, 3) := by decide +kernel
theorem dL_isTold_325 : decode cL_isTold 325 = .ok (.aload_n 2, 1) := by decide +kernel
theorem dL_isTold_326 : decode cL_isTold 326 = .ok (.iconst 1, 1) := by decide +kernel
theorem dL_isTold_327 : decode cL_isTold 327 = .ok (.iaload, 1) := by decide +kernel
theorem dL_isTold_328 : decode cL_isTold 328 = .ok (.iload 6, 2) := by decide +kernel
theorem dL_isTold_330 : decode cL_isTold 330 = .ok (.isub, 1) := by decide +kernel
theorem dL_isTold_331 : decode cL_isTold 331 = .ok (.iastore, 1) := by decide +kernel
theorem dL_isTold_332 : decode cL_isTold 332 = .ok (.aload_n 0, 1) := by decide +kernel
theorem dL_isTold_333 : decode cL_isTold 333 = .ok (.iload 6, 2) := by decide +kernel
theorem dL_isTold_335 : decode cL_isTold 335 = .ok (.invokevirtual 137, 3) := by decide +kernel
theorem dL_isTold_338 : decode cL_isTold 338 = .ok (.aload_n 2, 1) := by decide +kernel
theorem dL_isTold_339 : decode cL_isTold 339 = .ok (.iconst 0, 1) := by decide +kernel
theorem dL_isTold_340 : decode cL_isTold 340 = .ok (.iaload, 1) := by decide +kernel
theorem dL_isTold_341 : decode cL_isTold 341 = .ok (.if_icmp .ne 7, 3) := by decide +kernel
theorem dL_isTold_344 : decode cL_isTold 344 = .ok (.iconst 1, 1) := by decide +kernel
theorem dL_isTold_345 : decode cL_isTold 345 = .ok (.goto 4, 3) := by decide +kernel
theorem dL_isTold_348 : decode cL_isTold 348 = .ok (.iconst 0, 1) := by decide +kernel
theorem dL_isTold_349 : decode cL_isTold 349 = .ok (.ireturn, 1) := by decide +kernel
theorem dL_isClamp_0 : decode cL_isClamp 0 = .ok (.iload 4, 2) := by decide +kernel
theorem dL_isClamp_2 : decode cL_isClamp 2 = .ok (.bipush 48, 2) := by decide +kernel
theorem dL_isClamp_4 : decode cL_isClamp 4 = .ok (.irem, 1) := by decide +kernel
theorem dL_isClamp_5 : decode cL_isClamp 5 = .ok (.istore 5, 2) := by decide +kernel
theorem dL_isClamp_7 : decode cL_isClamp 7 = .ok (.iconst 0, 1) := by decide +kernel
theorem dL_isClamp_8 : decode cL_isClamp 8 = .ok (.istore 6, 2) := by decide +kernel
theorem dL_isClamp_10 : decode cL_isClamp 10 = .ok (.iconst 0, 1) := by decide +kernel
theorem dL_isClamp_11 : decode cL_isClamp 11 = .ok (.istore 7, 2) := by decide +kernel
theorem dL_isClamp_13 : decode cL_isClamp 13 = .ok (.iload 7, 2) := by decide +kernel
theorem dL_isClamp_15 : decode cL_isClamp 15 = .ok (.bipush 48, 2) := by decide +kernel
theorem dL_isClamp_17 : decode cL_isClamp 17 = .ok (.if_icmp .ge 35, 3) := by decide +kernel
theorem dL_isClamp_20 : decode cL_isClamp 20 = .ok (.iload 6, 2) := by decide +kernel
theorem dL_isClamp_22 : decode cL_isClamp 22 = .ok (.aload_n 1, 1) := by decide +kernel
theorem dL_isClamp_23 : decode cL_isClamp 23 = .ok (.iload 7, 2) := by decide +kernel
theorem dL_isClamp_25 : decode cL_isClamp 25 = .ok (.laload, 1) := by decide +kernel
theorem dL_isClamp_26 : decode cL_isClamp 26 = .ok (.bipush 44, 2) := by decide +kernel
theorem dL_isClamp_28 : decode cL_isClamp 28 = .ok (.lshr, 1) := by decide +kernel
theorem dL_isClamp_29 : decode cL_isClamp 29 = .ok (.ldc2_w 9, 3) := by decide +kernel
theorem dL_isClamp_32 : decode cL_isClamp 32 = .ok (.land, 1) := by decide +kernel
theorem dL_isClamp_33 : decode cL_isClamp 33 = .ok (.lconst 0, 1) := by decide +kernel
theorem dL_isClamp_34 : decode cL_isClamp 34 = .ok (.lcmp, 1) := by decide +kernel
theorem dL_isClamp_35 : decode cL_isClamp 35 = .ok (.ifCond .le 7, 3) := by decide +kernel
theorem dL_isClamp_38 : decode cL_isClamp 38 = .ok (.iconst 1, 1) := by decide +kernel
theorem dL_isClamp_39 : decode cL_isClamp 39 = .ok (.goto 4, 3) := by decide +kernel
theorem dL_isClamp_42 : decode cL_isClamp 42 = .ok (.iconst 0, 1) := by decide +kernel
theorem dL_isClamp_43 : decode cL_isClamp 43 = .ok (.iadd, 1) := by decide +kernel
theorem dL_isClamp_44 : decode cL_isClamp 44 = .ok (.istore 6, 2) := by decide +kernel
theorem dL_isClamp_46 : decode cL_isClamp 46 = .ok (.iinc 7 1, 3) := by decide +kernel
theorem dL_isClamp_49 : decode cL_isClamp 49 = .ok (.goto (-36), 3) := by decide +kernel
theorem dL_isClamp_52 : decode cL_isClamp 52 = .ok (.aload_n 2, 1) := by decide +kernel
theorem dL_isClamp_53 : decode cL_isClamp 53 = .ok (.iconst 4, 1) := by decide +kernel
theorem dL_isClamp_54 : decode cL_isClamp 54 = .ok (.iload_n 3, 1) := by decide +kernel
theorem dL_isClamp_55 : decode cL_isClamp 55 = .ok (.imul, 1) := by decide +kernel
theorem dL_isClamp_56 : decode cL_isClamp 56 = .ok (.iaload, 1) := by decide +kernel
theorem dL_isClamp_57 : decode cL_isClamp 57 = .ok (.ifCond .gt 25, 3) := by decide +kernel
theorem dL_isClamp_60 : decode cL_isClamp 60 = .ok (.iload 6, 2) := by decide +kernel
theorem dL_isClamp_62 : decode cL_isClamp 62 = .ok (.iconst 3, 1) := by decide +kernel
theorem dL_isClamp_63 : decode cL_isClamp 63 = .ok (.if_icmp .eq 19, 3) := by decide +kernel
theorem dL_isClamp_66 : decode cL_isClamp 66 = .ok (.aload_n 1, 1) := by decide +kernel
theorem dL_isClamp_67 : decode cL_isClamp 67 = .ok (.iload 5, 2) := by decide +kernel
theorem dL_isClamp_69 : decode cL_isClamp 69 = .ok (.laload, 1) := by decide +kernel
theorem dL_isClamp_70 : decode cL_isClamp 70 = .ok (.bipush 44, 2) := by decide +kernel
theorem dL_isClamp_72 : decode cL_isClamp 72 = .ok (.lshr, 1) := by decide +kernel
theorem dL_isClamp_73 : decode cL_isClamp 73 = .ok (.ldc2_w 9, 3) := by decide +kernel
theorem dL_isClamp_76 : decode cL_isClamp 76 = .ok (.land, 1) := by decide +kernel
theorem dL_isClamp_77 : decode cL_isClamp 77 = .ok (.lconst 0, 1) := by decide +kernel
theorem dL_isClamp_78 : decode cL_isClamp 78 = .ok (.lcmp, 1) := by decide +kernel
theorem dL_isClamp_79 : decode cL_isClamp 79 = .ok (.ifCond .le 5, 3) := by decide +kernel
theorem dL_isClamp_82 : decode cL_isClamp 82 = .ok (.iconst 1, 1) := by decide +kernel
theorem dL_isClamp_83 : decode cL_isClamp 83 = .ok (.ireturn, 1) := by decide +kernel
theorem dL_isClamp_84 : decode cL_isClamp 84 = .ok (.iconst 1, 1) := by decide +kernel
theorem dL_isClamp_85 : decode cL_isClamp 85 = .ok (.iload 4, 2) := by decide +kernel
theorem dL_isClamp_87 : decode cL_isClamp 87 = .ok (.bipush 48, 2) := by decide +kernel
theorem dL_isClamp_89 : decode cL_isClamp 89 = .ok (.idiv, 1) := by decide +kernel
theorem dL_isClamp_90 : decode cL_isClamp 90 = .ok (.bipush 9, 2) := by decide +kernel
theorem dL_isClamp_92 : decode cL_isClamp 92 = .ok (.irem, 1) := by decide +kernel
theorem dL_isClamp_93 : decode cL_isClamp 93 = .ok (.iadd, 1) := by decide +kernel
theorem dL_isClamp_94 : decode cL_isClamp 94 = .ok (.i2l, 1) := by decide +kernel
theorem dL_isClamp_95 : decode cL_isClamp 95 = .ok (.lstore 7, 2) := by decide +kernel
theorem dL_isClamp_97 : decode cL_isClamp 97 = .ok (.aload_n 1, 1) := by decide +kernel
theorem dL_isClamp_98 : decode cL_isClamp 98 = .ok (.iload 5, 2) := by decide +kernel
theorem dL_isClamp_100 : decode cL_isClamp 100 = .ok (.dup2, 1) := by decide +kernel
theorem dL_isClamp_101 : decode cL_isClamp 101 = .ok (.laload, 1) := by decide +kernel
theorem dL_isClamp_102 : decode cL_isClamp 102 = .ok (.lload 7, 2) := by decide +kernel
theorem dL_isClamp_104 : decode cL_isClamp 104 = .ok (.bipush 44, 2) := by decide +kernel
theorem dL_isClamp_106 : decode cL_isClamp 106 = .ok (.lshl, 1) := by decide +kernel
theorem dL_isClamp_107 : decode cL_isClamp 107 = .ok (.lor, 1) := by decide +kernel
theorem dL_isClamp_108 : decode cL_isClamp 108 = .ok (.lastore, 1) := by decide +kernel
theorem dL_isClamp_109 : decode cL_isClamp 109 = .ok (.aload_n 0, 1) := by decide +kernel
theorem dL_isClamp_110 : decode cL_isClamp 110 = .ok (.iload_n 3, 1) := by decide +kernel
theorem dL_isClamp_111 : decode cL_isClamp 111 = .ok (.iload 5, 2) := by decide +kernel
theorem dL_isClamp_113 : decode cL_isClamp 113 = .ok (.bipush 12, 2) := by decide +kernel
theorem dL_isClamp_115 : decode cL_isClamp 115 = .ok (.irem, 1) := by decide +kernel
theorem dL_isClamp_116 : decode cL_isClamp 116 = .ok (.iload 5, 2) := by decide +kernel
theorem dL_isClamp_118 : decode cL_isClamp 118 = .ok (.bipush 12, 2) := by decide +kernel
theorem dL_isClamp_120 : decode cL_isClamp 120 = .ok (.idiv, 1) := by decide +kernel
theorem dL_isClamp_121 : decode cL_isClamp 121 = .ok (.lload 7, 2) := by decide +kernel
theorem dL_isClamp_123 : decode cL_isClamp 123 = .ok (.l2i, 1) := by decide +kernel
theorem dL_isClamp_124 : decode cL_isClamp 124 = .ok (.invokevirtual 140, 3) := by decide +kernel
theorem dL_isClamp_127 : decode cL_isClamp 127 = .ok (.iload 6, 2) := by decide +kernel
theorem dL_isClamp_129 : decode cL_isClamp 129 = .ok (.iconst 1, 1) := by decide +kernel
theorem dL_isClamp_130 : decode cL_isClamp 130 = .ok (.iadd, 1) := by decide +kernel
theorem dL_isClamp_131 : decode cL_isClamp 131 = .ok (.if_icmp .ne 7, 3) := by decide +kernel
theorem dL_isClamp_134 : decode cL_isClamp 134 = .ok (.iconst 1, 1) := by decide +kernel
theorem dL_isClamp_135 : decode cL_isClamp 135 = .ok (.goto 4, 3) := by decide +kernel
theorem dL_isClamp_138 : decode cL_isClamp 138 = .ok (.iconst 0, 1) := by decide +kernel
theorem dL_isClamp_139 : decode cL_isClamp 139 = .ok (.ireturn, 1) := by decide +kernel
theorem dL_isPlanned_0 : decode cL_isPlanned 0 = .ok (.aload 6, 2) := by decide +kernel
theorem dL_isPlanned_2 : decode cL_isPlanned 2 = .ok (.iconst 4, 1) := by decide +kernel
theorem dL_isPlanned_3 : decode cL_isPlanned 3 = .ok (.iload 7, 2) := by decide +kernel
theorem dL_isPlanned_5 : decode cL_isPlanned 5 = .ok (.imul, 1) := by decide +kernel
theorem dL_isPlanned_6 : decode cL_isPlanned 6 = .ok (.iaload, 1) := by decide +kernel
theorem dL_isPlanned_7 : decode cL_isPlanned 7 = .ok (.ifCond .gt 23, 3) := by decide +kernel
theorem dL_isPlanned_10 : decode cL_isPlanned 10 = .ok (.aload_n 1, 1) := by decide +kernel
theorem dL_isPlanned_11 : decode cL_isPlanned 11 = .ok (.invokestatic 37, 3) := by decide +kernel
theorem dL_isPlanned_14 : decode cL_isPlanned 14 = .ok (.aload_n 2, 1) := by decide +kernel
theorem dL_isPlanned_15 : decode cL_isPlanned 15 = .ok (.aload_n 3, 1) := by decide +kernel
theorem dL_isPlanned_16 : decode cL_isPlanned 16 = .ok (.aload 4, 2) := by decide +kernel
theorem dL_isPlanned_18 : decode cL_isPlanned 18 = .ok (.aload 5, 2) := by decide +kernel
theorem dL_isPlanned_20 : decode cL_isPlanned 20 = .ok (.iload 8, 2) := by decide +kernel
theorem dL_isPlanned_22 : decode cL_isPlanned 22 = .ok (.iconst 0, 1) := by decide +kernel
theorem dL_isPlanned_23 : decode cL_isPlanned 23 = .ok (.iconst 0, 1) := by decide +kernel
theorem dL_isPlanned_24 : decode cL_isPlanned 24 = .ok (.invokestatic 33, 3) := by decide +kernel
theorem dL_isPlanned_27 : decode cL_isPlanned 27 = .ok (.ifCond .le 5, 3) := by decide +kernel
theorem dL_isPlanned_30 : decode cL_isPlanned 30 = .ok (.iconst 1, 1) := by decide +kernel
theorem dL_isPlanned_31 : decode cL_isPlanned 31 = .ok (.ireturn, 1) := by decide +kernel
theorem dL_isPlanned_32 : decode cL_isPlanned 32 = .ok (.aload 6, 2) := by decide +kernel
theorem dL_isPlanned_34 : decode cL_isPlanned 34 = .ok (.iconst 4, 1) := by decide +kernel
theorem dL_isPlanned_35 : decode cL_isPlanned 35 = .ok (.iload 7, 2) := by decide +kernel
theorem dL_isPlanned_37 : decode cL_isPlanned 37 = .ok (.imul, 1) := by decide +kernel
theorem dL_isPlanned_38 : decode cL_isPlanned 38 = .ok (.iconst 1, 1) := by decide +kernel
theorem dL_isPlanned_39 : decode cL_isPlanned 39 = .ok (.iastore, 1) := by decide +kernel
theorem dL_isPlanned_40 : decode cL_isPlanned 40 = .ok (.aload 6, 2) := by decide +kernel
theorem dL_isPlanned_42 : decode cL_isPlanned 42 = .ok (.iconst 4, 1) := by decide +kernel
theorem dL_isPlanned_43 : decode cL_isPlanned 43 = .ok (.iload 7, 2) := by decide +kernel
theorem dL_isPlanned_45 : decode cL_isPlanned 45 = .ok (.imul, 1) := by decide +kernel
theorem dL_isPlanned_46 : decode cL_isPlanned 46 = .ok (.iconst 1, 1) := by decide +kernel
theorem dL_isPlanned_47 : decode cL_isPlanned 47 = .ok (.iadd, 1) := by decide +kernel
theorem dL_isPlanned_48 : decode cL_isPlanned 48 = .ok (.iload 8, 2) := by decide +kernel
theorem dL_isPlanned_50 : decode cL_isPlanned 50 = .ok (.iastore, 1) := by decide +kernel
theorem dL_isPlanned_51 : decode cL_isPlanned 51 = .ok (.aload 6, 2) := by decide +kernel
theorem dL_isPlanned_53 : decode cL_isPlanned 53 = .ok (.bipush 8, 2) := by decide +kernel
theorem dL_isPlanned_55 : decode cL_isPlanned 55 = .ok (.aload 6, 2) := by decide +kernel
theorem dL_isPlanned_57 : decode cL_isPlanned 57 = .ok (.bipush 10, 2) := by decide +kernel
theorem dL_isPlanned_59 : decode cL_isPlanned 59 = .ok (.iaload, 1) := by decide +kernel
theorem dL_isPlanned_60 : decode cL_isPlanned 60 = .ok (.iadd, 1) := by decide +kernel
theorem dL_isPlanned_61 : decode cL_isPlanned 61 = .ok (.iload 7, 2) := by decide +kernel
theorem dL_isPlanned_63 : decode cL_isPlanned 63 = .ok (.iastore, 1) := by decide +kernel
theorem dL_isPlanned_64 : decode cL_isPlanned 64 = .ok (.aload 6, 2) := by decide +kernel
theorem dL_isPlanned_66 : decode cL_isPlanned 66 = .ok (.bipush 10, 2) := by decide +kernel
theorem dL_isPlanned_68 : decode cL_isPlanned 68 = .ok (.dup2, 1) := by decide +kernel
theorem dL_isPlanned_69 : decode cL_isPlanned 69 = .ok (.iaload, 1) := by decide +kernel
theorem dL_isPlanned_70 : decode cL_isPlanned 70 = .ok (.iconst 1, 1) := by decide +kernel
theorem dL_isPlanned_71 : decode cL_isPlanned 71 = .ok (.iadd, 1) := by decide +kernel
theorem dL_isPlanned_72 : decode cL_isPlanned 72 = .ok (.iastore, 1) := by decide +kernel
theorem dL_isPlanned_73 : decode cL_isPlanned 73 = .ok (.aload_n 0, 1) := by decide +kernel
theorem dL_isPlanned_74 : decode cL_isPlanned 74 = .ok (.iload 7, 2) := by decide +kernel
theorem dL_isPlanned_76 : decode cL_isPlanned 76 = .ok (.iload 8, 2) := by decide +kernel
theorem dL_isPlanned_78 : decode cL_isPlanned 78 = .ok (.invokevirtual 143, 3) := by decide +kernel
theorem dL_isPlanned_81 : decode cL_isPlanned 81 = .ok (.aload 6, 2) := by decide +kernel
theorem dL_isPlanned_83 : decode cL_isPlanned 83 = .ok (.bipush 10, 2) := by decide +kernel
theorem dL_isPlanned_85 : decode cL_isPlanned 85 = .ok (.iaload, 1) := by decide +kernel
theorem dL_isPlanned_86 : decode cL_isPlanned 86 = .ok (.if_icmp .ne 7, 3) := by decide +kernel
theorem dL_isPlanned_89 : decode cL_isPlanned 89 = .ok (.iconst 1, 1) := by decide +kernel
theorem dL_isPlanned_90 : decode cL_isPlanned 90 = .ok (.goto 4, 3) := by decide +kernel
theorem dL_isPlanned_93 : decode cL_isPlanned 93 = .ok (.iconst 0, 1) := by decide +kernel
theorem dL_isPlanned_94 : decode cL_isPlanned 94 = .ok (.ireturn, 1) := by decide +kernel
theorem dL_isBegun_0 : decode cL_isBegun 0 = .ok (.aload_n 0, 1) := by decide +kernel
theorem dL_isBegun_1 : decode cL_isBegun 1 = .ok (.invokevirtual 146, 3) := by decide +kernel
theorem dL_isBegun_4 : decode cL_isBegun 4 = .ok (.ifCond .ne 7, 3) := by decide +kernel
theorem dL_isBegun_7 : decode cL_isBegun 7 = .ok (.iconst 1, 1) := by decide +kernel
theorem dL_isBegun_8 : decode cL_isBegun 8 = .ok (.goto 4, 3) := by decide +kernel
theorem dL_isBegun_11 : decode cL_isBegun 11 = .ok (.iconst 0, 1) := by decide +kernel
theorem dL_isBegun_12 : decode cL_isBegun 12 = .ok (.istore 8, 2) := by decide +kernel
theorem dL_isBegun_14 : decode cL_isBegun 14 = .ok (.iconst 0, 1) := by decide +kernel
theorem dL_isBegun_15 : decode cL_isBegun 15 = .ok (.istore 9, 2) := by decide +kernel
theorem dL_isBegun_17 : decode cL_isBegun 17 = .ok (.iload 9, 2) := by decide +kernel
theorem dL_isBegun_19 : decode cL_isBegun 19 = .ok (.iconst 2, 1) := by decide +kernel
theorem dL_isBegun_20 : decode cL_isBegun 20 = .ok (.if_icmp .ge 223, 3) := by decide +kernel
theorem dL_isBegun_23 : decode cL_isBegun 23 = .ok (.iload 8, 2) := by decide +kernel
theorem dL_isBegun_25 : decode cL_isBegun 25 = .ok (.ifCond .eq 218, 3) := by decide +kernel
theorem dL_isBegun_28 : decode cL_isBegun 28 = .ok (.iconst 3, 1) := by decide +kernel
theorem dL_isBegun_29 : decode cL_isBegun 29 = .ok (.aload_n 1, 1) := by decide +kernel
theorem dL_isBegun_30 : decode cL_isBegun 30 = .ok (.sipush 300, 3) := by decide +kernel
theorem dL_isBegun_33 : decode cL_isBegun 33 = .ok (.iload 9, 2) := by decide +kernel
theorem dL_isBegun_35 : decode cL_isBegun 35 = .ok (.iadd, 1) := by decide +kernel
theorem dL_isBegun_36 : decode cL_isBegun 36 = .ok (.bipush 7, 2) := by decide +kernel
theorem dL_isBegun_38 : decode cL_isBegun 38 = .ok (.invokestatic 149, 3) := by decide +kernel
theorem dL_isBegun_41 : decode cL_isBegun 41 = .ok (.iadd, 1) := by decide +kernel
theorem dL_isBegun_42 : decode cL_isBegun 42 = .ok (.istore 10, 2) := by decide +kernel
theorem dL_isBegun_44 : decode cL_isBegun 44 = .ok (.iconst 0, 1) := by decide +kernel
theorem dL_isBegun_45 : decode cL_isBegun 45 = .ok (.istore 11, 2) := by decide +kernel
theorem dL_isBegun_47 : decode cL_isBegun 47 = .ok (.iload 11, 2) := by decide +kernel
theorem dL_isBegun_49 : decode cL_isBegun 49 = .ok (.bipush 48, 2) := by decide +kernel
theorem dL_isBegun_51 : decode cL_isBegun 51 = .ok (.if_icmp .ge 35, 3) := by decide +kernel
theorem dL_isBegun_54 : decode cL_isBegun 54 = .ok (.aload_n 2, 1) := by decide +kernel
theorem dL_isBegun_55 : decode cL_isBegun 55 = .ok (.iload 11, 2) := by decide +kernel
theorem dL_isBegun_57 : decode cL_isBegun 57 = .ok (.iload 9, 2) := by decide +kernel
theorem dL_isBegun_59 : decode cL_isBegun 59 = .ok (.ifCond .ne 9, 3) := by decide +kernel
theorem dL_isBegun_62 : decode cL_isBegun 62 = .ok (.iload 10, 2) := by decide +kernel
theorem dL_isBegun_64 : decode cL_isBegun 64 = .ok (.i2l, 1) := by decide +kernel
theorem dL_isBegun_65 : decode cL_isBegun 65 = .ok (.goto 7, 3) := by decide +kernel
theorem dL_isBegun_68 : decode cL_isBegun 68 = .ok (.aload_n 2, 1) := by decide +kernel
theorem dL_isBegun_69 : decode cL_isBegun 69 = .ok (.iload 11, 2) := by decide +kernel
theorem dL_isBegun_71 : decode cL_isBegun 71 = .ok (.laload, 1) := by decide +kernel
theorem dL_isBegun_72 : decode cL_isBegun 72 = .ok (.lastore, 1) := by decide +kernel
theorem dL_isBegun_73 : decode cL_isBegun 73 = .ok (.aload_n 3, 1) := by decide +kernel
theorem dL_isBegun_74 : decode cL_isBegun 74 = .ok (.iload 11, 2) := by decide +kernel
theorem dL_isBegun_76 : decode cL_isBegun 76 = .ok (.iload 10, 2) := by decide +kernel
theorem dL_isBegun_78 : decode cL_isBegun 78 = .ok (.i2l, 1) := by decide +kernel
theorem dL_isBegun_79 : decode cL_isBegun 79 = .ok (.lastore, 1) := by decide +kernel
theorem dL_isBegun_80 : decode cL_isBegun 80 = .ok (.iinc 11 1, 3) := by decide +kernel
theorem dL_isBegun_83 : decode cL_isBegun 83 = .ok (.goto (-36), 3) := by decide +kernel
theorem dL_isBegun_86 : decode cL_isBegun 86 = .ok (.aload 7, 2) := by decide +kernel
theorem dL_isBegun_88 : decode cL_isBegun 88 = .ok (.iconst 4, 1) := by decide +kernel
theorem dL_isBegun_89 : decode cL_isBegun 89 = .ok (.iload 9, 2) := by decide +kernel
theorem dL_isBegun_91 : decode cL_isBegun 91 = .ok (.imul, 1) := by decide +kernel
theorem dL_isBegun_92 : decode cL_isBegun 92 = .ok (.iconst 3, 1) := by decide +kernel
theorem dL_isBegun_93 : decode cL_isBegun 93 = .ok (.iadd, 1) := by decide +kernel
theorem dL_isBegun_94 : decode cL_isBegun 94 = .ok (.iconst (-1), 1) := by decide +kernel
theorem dL_isBegun_95 : decode cL_isBegun 95 = .ok (.iastore, 1) := by decide +kernel
theorem dL_isBegun_96 : decode cL_isBegun 96 = .ok (.bipush 16, 2) := by decide +kernel
theorem dL_isBegun_98 : decode cL_isBegun 98 = .ok (.bipush 6, 2) := by decide +kernel
theorem dL_isBegun_100 : decode cL_isBegun 100 = .ok (.iload 9, 2) := by decide +kernel
theorem dL_isBegun_102 : decode cL_isBegun 102 = .ok (.imul, 1) := by decide +kernel
theorem dL_isBegun_103 : decode cL_isBegun 103 = .ok (.iadd, 1) := by decide +kernel
theorem dL_isBegun_104 : decode cL_isBegun 104 = .ok (.istore 11, 2) := by decide +kernel
theorem dL_isBegun_106 : decode cL_isBegun 106 = .ok (.aload 6, 2) := by decide +kernel
theorem dL_isBegun_108 : decode cL_isBegun 108 = .ok (.iload 11, 2) := by decide +kernel
theorem dL_isBegun_110 : decode cL_isBegun 110 = .ok (.aload_n 1, 1) := by decide +kernel
theorem dL_isBegun_111 : decode cL_isBegun 111 = .ok (.sipush 302, 3) := by decide +kernel
theorem dL_isBegun_114 : decode cL_isBegun 114 = .ok (.iload 9, 2) := by decide +kernel
theorem dL_isBegun_116 : decode cL_isBegun 116 = .ok (.iadd, 1) := by decide +kernel
theorem dL_isBegun_117 : decode cL_isBegun 117 = .ok (.bipush 12, 2) := by decide +kernel
theorem dL_isBegun_119 : decode cL_isBegun 119 = .ok (.invokestatic 149, 3) := by decide +kernel
theorem dL_isBegun_122 : decode cL_isBegun 122 = .ok (.iastore, 1) := by decide +kernel
theorem dL_isBegun_123 : decode cL_isBegun 123 = .ok (.aload 6, 2) := by decide +kernel
theorem dL_isBegun_125 : decode cL_isBegun 125 = .ok (.iload 11, 2) := by decide +kernel
theorem dL_isBegun_127 : decode cL_isBegun 127 = .ok (.iconst 1, 1) := by decide +kernel
theorem dL_isBegun_128 : decode cL_isBegun 128 = .ok (.iadd, 1) := by decide +kernel
theorem dL_isBegun_129 : decode cL_isBegun 129 = .ok (.aload_n 1, 1) := by decide +kernel
theorem dL_isBegun_130 : decode cL_isBegun 130 = .ok (.sipush 304, 3) := by decide +kernel
theorem dL_isBegun_133 : decode cL_isBegun 133 = .ok (.iload 9, 2) := by decide +kernel
theorem dL_isBegun_135 : decode cL_isBegun 135 = .ok (.iadd, 1) := by decide +kernel
theorem dL_isBegun_136 : decode cL_isBegun 136 = .ok (.iconst 4, 1) := by decide +kernel
theorem dL_isBegun_137 : decode cL_isBegun 137 = .ok (.invokestatic 149, 3) := by decide +kernel
theorem dL_isBegun_140 : decode cL_isBegun 140 = .ok (.iastore, 1) := by decide +kernel
theorem dL_isBegun_141 : decode cL_isBegun 141 = .ok (.aload 6, 2) := by decide +kernel
theorem dL_isBegun_143 : decode cL_isBegun 143 = .ok (.iload 11, 2) := by decide +kernel
theorem dL_isBegun_145 : decode cL_isBegun 145 = .ok (.iconst 2, 1) := by decide +kernel
theorem dL_isBegun_146 : decode cL_isBegun 146 = .ok (.iadd, 1) := by decide +kernel
theorem dL_isBegun_147 : decode cL_isBegun 147 = .ok (.aload_n 1, 1) := by decide +kernel
theorem dL_isBegun_148 : decode cL_isBegun 148 = .ok (.sipush 306, 3) := by decide +kernel
theorem dL_isBegun_151 : decode cL_isBegun 151 = .ok (.iload 9, 2) := by decide +kernel
theorem dL_isBegun_153 : decode cL_isBegun 153 = .ok (.iadd, 1) := by decide +kernel
theorem dL_isBegun_154 : decode cL_isBegun 154 = .ok (.bipush 9, 2) := by decide +kernel
theorem dL_isBegun_156 : decode cL_isBegun 156 = .ok (.invokestatic 149, 3) := by decide +kernel
theorem dL_isBegun_159 : decode cL_isBegun 159 = .ok (.iastore, 1) := by decide +kernel
theorem dL_isBegun_160 : decode cL_isBegun 160 = .ok (.aload 6, 2) := by decide +kernel
theorem dL_isBegun_162 : decode cL_isBegun 162 = .ok (.iload 11, 2) := by decide +kernel
theorem dL_isBegun_164 : decode cL_isBegun 164 = .ok (.iconst 3, 1) := by decide +kernel
theorem dL_isBegun_165 : decode cL_isBegun 165 = .ok (.iadd, 1) := by decide +kernel
theorem dL_isBegun_166 : decode cL_isBegun 166 = .ok (.iconst 1, 1) := by decide +kernel
theorem dL_isBegun_167 : decode cL_isBegun 167 = .ok (.aload_n 1, 1) := by decide +kernel
theorem dL_isBegun_168 : decode cL_isBegun 168 = .ok (.sipush 308, 3) := by decide +kernel
theorem dL_isBegun_171 : decode cL_isBegun 171 = .ok (.iload 9, 2) := by decide +kernel
theorem dL_isBegun_173 : decode cL_isBegun 173 = .ok (.iadd, 1) := by decide +kernel
theorem dL_isBegun_174 : decode cL_isBegun 174 = .ok (.bipush 99, 2) := by decide +kernel
theorem dL_isBegun_176 : decode cL_isBegun 176 = .ok (.invokestatic 149, 3) := by decide +kernel
theorem dL_isBegun_179 : decode cL_isBegun 179 = .ok (.iadd, 1) := by decide +kernel
theorem dL_isBegun_180 : decode cL_isBegun 180 = .ok (.iastore, 1) := by decide +kernel
theorem dL_isBegun_181 : decode cL_isBegun 181 = .ok (.aload_n 0, 1) := by decide +kernel
theorem dL_isBegun_182 : decode cL_isBegun 182 = .ok (.iload 10, 2) := by decide +kernel
theorem dL_isBegun_184 : decode cL_isBegun 184 = .ok (.invokevirtual 153, 3) := by decide +kernel
theorem dL_isBegun_187 : decode cL_isBegun 187 = .ok (.iload 9, 2) := by decide +kernel
theorem dL_isBegun_189 : decode cL_isBegun 189 = .ok (.if_icmp .ne 45, 3) := by decide +kernel
theorem dL_isBegun_192 : decode cL_isBegun 192 = .ok (.aload_n 0, 1) := by decide +kernel
theorem dL_isBegun_193 : decode cL_isBegun 193 = .ok (.iconst 0, 1) := by decide +kernel
theorem dL_isBegun_194 : decode cL_isBegun 194 = .ok (.aload 6, 2) := by decide +kernel
theorem dL_isBegun_196 : decode cL_isBegun 196 = .ok (.iload 11, 2) := by decide +kernel
theorem dL_isBegun_198 : decode cL_isBegun 198 = .ok (.iaload, 1) := by decide +kernel
theorem dL_isBegun_199 : decode cL_isBegun 199 = .ok (.aload 6, 2) := by decide +kernel
theorem dL_isBegun_201 : decode cL_isBegun 201 = .ok (.iload 11, 2) := by decide +kernel
theorem dL_isBegun_203 : decode cL_isBegun 203 = .ok (.iconst 1, 1) := by decide +kernel
theorem dL_isBegun_204 : decode cL_isBegun 204 = .ok (.iadd, 1) := by decide +kernel
theorem dL_isBegun_205 : decode cL_isBegun 205 = .ok (.iaload, 1) := by decide +kernel
theorem dL_isBegun_206 : decode cL_isBegun 206 = .ok (.aload 6, 2) := by decide +kernel
theorem dL_isBegun_208 : decode cL_isBegun 208 = .ok (.iload 11, 2) := by decide +kernel
theorem dL_isBegun_210 : decode cL_isBegun 210 = .ok (.iconst 2, 1) := by decide +kernel
theorem dL_isBegun_211 : decode cL_isBegun 211 = .ok (.iadd, 1) := by decide +kernel
theorem dL_isBegun_212 : decode cL_isBegun 212 = .ok (.iaload, 1) := by decide +kernel
theorem dL_isBegun_213 : decode cL_isBegun 213 = .ok (.aload 6, 2) := by decide +kernel
theorem dL_isBegun_215 : decode cL_isBegun 215 = .ok (.iload 11, 2) := by decide +kernel
theorem dL_isBegun_217 : decode cL_isBegun 217 = .ok (.iconst 3, 1) := by decide +kernel
theorem dL_isBegun_218 : decode cL_isBegun 218 = .ok (.iadd, 1) := by decide +kernel
theorem dL_isBegun_219 : decode cL_isBegun 219 = .ok (.iaload, 1) := by decide +kernel
theorem dL_isBegun_220 : decode cL_isBegun 220 = .ok (.invokevirtual 156, 3) := by decide +kernel
theorem dL_isBegun_223 : decode cL_isBegun 223 = .ok (.iload 9, 2) := by decide +kernel
theorem dL_isBegun_225 : decode cL_isBegun 225 = .ok (.iconst 1, 1) := by decide +kernel
theorem dL_isBegun_226 : decode cL_isBegun 226 = .ok (.iadd, 1) := by decide +kernel
theorem dL_isBegun_227 : decode cL_isBegun 227 = .ok (.if_icmp .ne 7, 3) := by decide +kernel
theorem dL_isBegun_230 : decode cL_isBegun 230 = .ok (.iconst 1, 1) := by decide +kernel
theorem dL_isBegun_231 : decode cL_isBegun 231 = .ok (.goto 4, 3) := by decide +kernel
theorem dL_isBegun_234 : decode cL_isBegun 234 = .ok (.iconst 0, 1) := by decide +kernel
theorem dL_isBegun_235 : decode cL_isBegun 235 = .ok (.istore 8, 2) := by decide +kernel
theorem dL_isBegun_237 : decode cL_isBegun 237 = .ok (.iinc 9 1, 3) := by decide +kernel
theorem dL_isBegun_240 : decode cL_isBegun 240 = .ok (.goto (-223), 3) := by decide +kernel
theorem dL_isBegun_243 : decode cL_isBegun 243 = .ok (.iconst 0, 1) := by decide +kernel
theorem dL_isBegun_244 : decode cL_isBegun 244 = .ok (.istore 9, 2) := by decide +kernel
theorem dL_isBegun_246 : decode cL_isBegun 246 = .ok (.iload 9, 2) := by decide +kernel
theorem dL_isBegun_248 : decode cL_isBegun 248 = .ok (.iconst 4, 1) := by decide +kernel
theorem dL_isBegun_249 : decode cL_isBegun 249 = .ok (.if_icmp .ge 151, 3) := by decide +kernel
theorem dL_isBegun_252 : decode cL_isBegun 252 = .ok (.iload 8, 2) := by decide +kernel
theorem dL_isBegun_254 : decode cL_isBegun 254 = .ok (.ifCond .eq 146, 3) := by decide +kernel
theorem dL_isBegun_257 : decode cL_isBegun 257 = .ok (.aload 5, 2) := by decide +kernel
theorem dL_isBegun_259 : decode cL_isBegun 259 = .ok (.bipush 9, 2) := by decide +kernel
theorem dL_isBegun_261 : decode cL_isBegun 261 = .ok (.iload 9, 2) := by decide +kernel
theorem dL_isBegun_263 : decode cL_isBegun 263 = .ok (.imul, 1) := by decide +kernel
theorem dL_isBegun_264 : decode cL_isBegun 264 = .ok (.aload_n 1, 1) := by decide +kernel
theorem dL_isBegun_265 : decode cL_isBegun 265 = .ok (.sipush 310, 3) := by decide +kernel
theorem dL_isBegun_268 : decode cL_isBegun 268 = .ok (.iload 9, 2) := by decide +kernel
theorem dL_isBegun_270 : decode cL_isBegun 270 = .ok (.iadd, 1) := by decide +kernel
theorem dL_isBegun_271 : decode cL_isBegun 271 = .ok (.iconst 3, 1) := by decide +kernel
theorem dL_isBegun_272 : decode cL_isBegun 272 = .ok (.iload 9, 2) := by decide +kernel
theorem dL_isBegun_274 : decode cL_isBegun 274 = .ok (.iadd, 1) := by decide +kernel
theorem dL_isBegun_275 : decode cL_isBegun 275 = .ok (.invokestatic 149, 3) := by decide +kernel
theorem dL_isBegun_278 : decode cL_isBegun 278 = .ok (.iastore, 1) := by decide +kernel
theorem dL_isBegun_279 : decode cL_isBegun 279 = .ok (.aload 5, 2) := by decide +kernel
theorem dL_isBegun_281 : decode cL_isBegun 281 = .ok (.bipush 9, 2) := by decide +kernel
theorem dL_isBegun_283 : decode cL_isBegun 283 = .ok (.iload 9, 2) := by decide +kernel
theorem dL_isBegun_285 : decode cL_isBegun 285 = .ok (.imul, 1) := by decide +kernel
theorem dL_isBegun_286 : decode cL_isBegun 286 = .ok (.aload 5, 2) := by decide +kernel
theorem dL_isBegun_288 : decode cL_isBegun 288 = .ok (.bipush 9, 2) := by decide +kernel
theorem dL_isBegun_290 : decode cL_isBegun 290 = .ok (.iload 9, 2) := by decide +kernel
theorem dL_isBegun_292 : decode cL_isBegun 292 = .ok (.imul, 1) := by decide +kernel
theorem dL_isBegun_293 : decode cL_isBegun 293 = .ok (.iaload, 1) := by decide +kernel
theorem dL_isBegun_294 : decode cL_isBegun 294 = .ok (.iconst 3, 1) := by decide +kernel
theorem dL_isBegun_295 : decode cL_isBegun 295 = .ok (.if_icmp .le 7, 3) := by decide +kernel
theorem dL_isBegun_298 : decode cL_isBegun 298 = .ok (.iconst 0, 1) := by decide +kernel
theorem dL_isBegun_299 : decode cL_isBegun 299 = .ok (.goto 11, 3) := by decide +kernel
theorem dL_isBegun_302 : decode cL_isBegun 302 = .ok (.aload 5, 2) := by decide +kernel
theorem dL_isBegun_304 : decode cL_isBegun 304 = .ok (.bipush 9, 2) := by decide +kernel
theorem dL_isBegun_306 : decode cL_isBegun 306 = .ok (.iload 9, 2) := by decide +kernel
theorem dL_isBegun_308 : decode cL_isBegun 308 = .ok (.imul, 1) := by decide +kernel
theorem dL_isBegun_309 : decode cL_isBegun 309 = .ok (.iaload, 1) := by decide +kernel
theorem dL_isBegun_310 : decode cL_isBegun 310 = .ok (.iastore, 1) := by decide +kernel
theorem dL_isBegun_311 : decode cL_isBegun 311 = .ok (.aload 5, 2) := by decide +kernel
theorem dL_isBegun_313 : decode cL_isBegun 313 = .ok (.bipush 9, 2) := by decide +kernel
theorem dL_isBegun_315 : decode cL_isBegun 315 = .ok (.iload 9, 2) := by decide +kernel
theorem dL_isBegun_317 : decode cL_isBegun 317 = .ok (.imul, 1) := by decide +kernel
theorem dL_isBegun_318 : decode cL_isBegun 318 = .ok (.iconst 1, 1) := by decide +kernel
theorem dL_isBegun_319 : decode cL_isBegun 319 = .ok (.iadd, 1) := by decide +kernel
theorem dL_isBegun_320 : decode cL_isBegun 320 = .ok (.iconst 1, 1) := by decide +kernel
theorem dL_isBegun_321 : decode cL_isBegun 321 = .ok (.aload_n 1, 1) := by decide +kernel
theorem dL_isBegun_322 : decode cL_isBegun 322 = .ok (.sipush 314, 3) := by decide +kernel
theorem dL_isBegun_325 : decode cL_isBegun 325 = .ok (.iload 9, 2) := by decide +kernel
theorem dL_isBegun_327 : decode cL_isBegun 327 = .ok (.iadd, 1) := by decide +kernel
theorem dL_isBegun_328 : decode cL_isBegun 328 = .ok (.bipush 40, 2) := by decide +kernel
theorem dL_isBegun_330 : decode cL_isBegun 330 = .ok (.invokestatic 149, 3) := by decide +kernel
theorem dL_isBegun_333 : decode cL_isBegun 333 = .ok (.iadd, 1) := by decide +kernel
theorem dL_isBegun_334 : decode cL_isBegun 334 = .ok (.iastore, 1) := by decide +kernel
theorem dL_isBegun_335 : decode cL_isBegun 335 = .ok (.aload 5, 2) := by decide +kernel
theorem dL_isBegun_337 : decode cL_isBegun 337 = .ok (.bipush 9, 2) := by decide +kernel
theorem dL_isBegun_339 : decode cL_isBegun 339 = .ok (.iload 9, 2) := by decide +kernel
theorem dL_isBegun_341 : decode cL_isBegun 341 = .ok (.imul, 1) := by decide +kernel
theorem dL_isBegun_342 : decode cL_isBegun 342 = .ok (.iconst 4, 1) := by decide +kernel
theorem dL_isBegun_343 : decode cL_isBegun 343 = .ok (.iadd, 1) := by decide +kernel
theorem dL_isBegun_344 : decode cL_isBegun 344 = .ok (.iconst 1, 1) := by decide +kernel
theorem dL_isBegun_345 : decode cL_isBegun 345 = .ok (.iastore, 1) := by decide +kernel
theorem dL_isBegun_346 : decode cL_isBegun 346 = .ok (.aload_n 0, 1) := by decide +kernel
theorem dL_isBegun_347 : decode cL_isBegun 347 = .ok (.aload 5, 2) := by decide +kernel
theorem dL_isBegun_349 : decode cL_isBegun 349 = .ok (.bipush 9, 2) := by decide +kernel
theorem dL_isBegun_351 : decode cL_isBegun 351 = .ok (.iload 9, 2) := by decide +kernel
theorem dL_isBegun_353 : decode cL_isBegun 353 = .ok (.imul, 1) := by decide +kernel
theorem dL_isBegun_354 : decode cL_isBegun 354 = .ok (.iaload, 1) := by decide +kernel
theorem dL_isBegun_355 : decode cL_isBegun 355 = .ok (.aload 5, 2) := by decide +kernel
theorem dL_isBegun_357 : decode cL_isBegun 357 = .ok (.bipush 9, 2) := by decide +kernel
theorem dL_isBegun_359 : decode cL_isBegun 359 = .ok (.iload 9, 2) := by decide +kernel
theorem dL_isBegun_361 : decode cL_isBegun 361 = .ok (.imul, 1) := by decide +kernel
theorem dL_isBegun_362 : decode cL_isBegun 362 = .ok (.iconst 1, 1) := by decide +kernel
theorem dL_isBegun_363 : decode cL_isBegun 363 = .ok (.iadd, 1) := by decide +kernel
theorem dL_isBegun_364 : decode cL_isBegun 364 = .ok (.iaload, 1) := by decide +kernel
theorem dL_isBegun_365 : decode cL_isBegun 365 = .ok (.invokevirtual 160, 3) := by decide +kernel
theorem dL_isBegun_368 : decode cL_isBegun 368 = .ok (.iload 9, 2) := by decide +kernel
theorem dL_isBegun_370 : decode cL_isBegun 370 = .ok (.if_icmp .ne 21, 3) := by decide +kernel
theorem dL_isBegun_373 : decode cL_isBegun 373 = .ok (.aload_n 0, 1) := by decide +kernel
theorem dL_isBegun_374 : decode cL_isBegun 374 = .ok (.iload 9, 2) := by decide +kernel
theorem dL_isBegun_376 : decode cL_isBegun 376 = .ok (.iconst 1, 1) := by decide +kernel
theorem dL_isBegun_377 : decode cL_isBegun 377 = .ok (.invokevirtual 124, 3) := by decide +kernel
theorem dL_isBegun_380 : decode cL_isBegun 380 = .ok (.iload 9, 2) := by decide +kernel
theorem dL_isBegun_382 : decode cL_isBegun 382 = .ok (.iconst 1, 1) := by decide +kernel
theorem dL_isBegun_383 : decode cL_isBegun 383 = .ok (.iadd, 1) := by decide +kernel
theorem dL_isBegun_384 : decode cL_isBegun 384 = .ok (.if_icmp .ne 7, 3) := by decide +kernel
theorem dL_isBegun_387 : decode cL_isBegun 387 = .ok (.iconst 1, 1) := by decide +kernel
theorem dL_isBegun_388 : decode cL_isBegun 388 = .ok (.goto 4, 3) := by decide +kernel
theorem dL_isBegun_391 : decode cL_isBegun 391 = .ok (.iconst 0, 1) := by decide +kernel
theorem dL_isBegun_392 : decode cL_isBegun 392 = .ok (.istore 8, 2) := by decide +kernel
theorem dL_isBegun_394 : decode cL_isBegun 394 = .ok (.iinc 9 1, 3) := by decide +kernel
theorem dL_isBegun_397 : decode cL_isBegun 397 = .ok (.goto (-151), 3) := by decide +kernel
theorem dL_isBegun_400 : decode cL_isBegun 400 = .ok (.iconst 0, 1) := by decide +kernel
theorem dL_isBegun_401 : decode cL_isBegun 401 = .ok (.istore 9, 2) := by decide +kernel
theorem dL_isBegun_403 : decode cL_isBegun 403 = .ok (.iload 9, 2) := by decide +kernel
theorem dL_isBegun_405 : decode cL_isBegun 405 = .ok (.iconst 3, 1) := by decide +kernel
theorem dL_isBegun_406 : decode cL_isBegun 406 = .ok (.if_icmp .ge 53, 3) := by decide +kernel
theorem dL_isBegun_409 : decode cL_isBegun 409 = .ok (.iload 8, 2) := by decide +kernel
theorem dL_isBegun_411 : decode cL_isBegun 411 = .ok (.ifCond .eq 48, 3) := by decide +kernel
theorem dL_isBegun_414 : decode cL_isBegun 414 = .ok (.aload_n 0, 1) := by decide +kernel
theorem dL_isBegun_415 : decode cL_isBegun 415 = .ok (.invokevirtual 163, 3) := by decide +kernel
theorem dL_isBegun_418 : decode cL_isBegun 418 = .ok (.iload 9, 2) := by decide +kernel
theorem dL_isBegun_420 : decode cL_isBegun 420 = .ok (.if_icmp .ne 30, 3) := by decide +kernel
theorem dL_isBegun_423 : decode cL_isBegun 423 = .ok (.aload_n 0, 1) := by decide +kernel
theorem dL_isBegun_424 : decode cL_isBegun 424 = .ok (.aload 4, 2) := by decide +kernel
theorem dL_isBegun_426 : decode cL_isBegun 426 = .ok (.iload 9, 2) := by decide +kernel
theorem dL_isBegun_428 : decode cL_isBegun 428 = .ok (.aload_n 1, 1) := by decide +kernel
theorem dL_isBegun_429 : decode cL_isBegun 429 = .ok (.sipush 320, 3) := by decide +kernel
theorem dL_isBegun_432 : decode cL_isBegun 432 = .ok (.iload 9, 2) := by decide +kernel
theorem dL_isBegun_434 : decode cL_isBegun 434 = .ok (.iadd, 1) := by decide +kernel
theorem dL_isBegun_435 : decode cL_isBegun 435 = .ok (.ldc 166, 2) := by decide +kernel
theorem dL_isBegun_437 : decode cL_isBegun 437 = .ok (.invokestatic 149, 3) := by decide +kernel
theorem dL_isBegun_440 : decode cL_isBegun 440 = .ok (.invokestatic 167, 3) := by decide +kernel
theorem dL_isBegun_443 : decode cL_isBegun 443 = .ok (.ifCond .eq 7, 3) := by decide +kernel
theorem dL_isBegun_446 : decode cL_isBegun 446 = .ok (.iconst 1, 1) := by decide +kernel
theorem dL_isBegun_447 : decode cL_isBegun 447 = .ok (.goto 4, 3) := by decide +kernel
theorem dL_isBegun_450 : decode cL_isBegun 450 = .ok (.iconst 0, 1) := by decide +kernel
theorem dL_isBegun_451 : decode cL_isBegun 451 = .ok (.istore 8, 2) := by decide +kernel
theorem dL_isBegun_453 : decode cL_isBegun 453 = .ok (.iinc 9 1, 3) := by decide +kernel
theorem dL_isBegun_456 : decode cL_isBegun 456 = .ok (.goto (-53), 3) := by decide +kernel
theorem dL_isBegun_459 : decode cL_isBegun 459 = .ok (.iload 8, 2) := by decide +kernel
theorem dL_isBegun_461 : decode cL_isBegun 461 = .ok (.ireturn, 1) := by decide +kernel
theorem dL_holds_0 : decode cL_holds 0 = .ok (.new 68, 3) := by decide +kernel
theorem dL_holds_3 : decode cL_holds 3 = .ok (.dup, 1) := by decide +kernel
theorem dL_holds_4 : decode cL_holds 4 = .ok (.invokespecial 171, 3) := by decide +kernel
theorem dL_holds_7 : decode cL_holds 7 = .ok (.astore_n 1, 1) := by decide +kernel
theorem dL_holds_8 : decode cL_holds 8 = .ok (.bipush 48, 2) := by decide +kernel
theorem dL_holds_10 : decode cL_holds 10 = .ok (.newarray .long, 2) := by decide +kernel
theorem dL_holds_12 : decode cL_holds 12 = .ok (.astore_n 2, 1) := by decide +kernel
theorem dL_holds_13 : decode cL_holds 13 = .ok (.bipush 48, 2) := by decide +kernel
theorem dL_holds_15 : decode cL_holds 15 = .ok (.newarray .long, 2) := by decide +kernel
theorem dL_holds_17 : decode cL_holds 17 = .ok (.astore_n 3, 1) := by decide +kernel
theorem dL_holds_18 : decode cL_holds 18 = .ok (.bipush 39, 2) := by decide +kernel
theorem dL_holds_20 : decode cL_holds 20 = .ok (.newarray .int, 2) := by decide +kernel
theorem dL_holds_22 : decode cL_holds 22 = .ok (.astore 4, 2) := by decide +kernel
theorem dL_holds_24 : decode cL_holds 24 = .ok (.bipush 36, 2) := by decide +kernel
theorem dL_holds_26 : decode cL_holds 26 = .ok (.newarray .int, 2) := by decide +kernel
theorem dL_holds_28 : decode cL_holds 28 = .ok (.astore 5, 2) := by decide +kernel
theorem dL_holds_30 : decode cL_holds 30 = .ok (.bipush 37, 2) := by decide +kernel
theorem dL_holds_32 : decode cL_holds 32 = .ok (.newarray .int, 2) := by decide +kernel
theorem dL_holds_34 : decode cL_holds 34 = .ok (.astore 6, 2) := by decide +kernel
theorem dL_holds_36 : decode cL_holds 36 = .ok (.bipush 20, 2) := by decide +kernel
theorem dL_holds_38 : decode cL_holds 38 = .ok (.newarray .int, 2) := by decide +kernel
theorem dL_holds_40 : decode cL_holds 40 = .ok (.astore 7, 2) := by decide +kernel
theorem dL_holds_42 : decode cL_holds 42 = .ok (.bipush 11, 2) := by decide +kernel
theorem dL_holds_44 : decode cL_holds 44 = .ok (.newarray .int, 2) := by decide +kernel
theorem dL_holds_46 : decode cL_holds 46 = .ok (.astore 8, 2) := by decide +kernel
theorem dL_holds_48 : decode cL_holds 48 = .ok (.aload_n 1, 1) := by decide +kernel
theorem dL_holds_49 : decode cL_holds 49 = .ok (.aload_n 0, 1) := by decide +kernel
theorem dL_holds_50 : decode cL_holds 50 = .ok (.aload_n 2, 1) := by decide +kernel
theorem dL_holds_51 : decode cL_holds 51 = .ok (.aload_n 3, 1) := by decide +kernel
theorem dL_holds_52 : decode cL_holds 52 = .ok (.aload 4, 2) := by decide +kernel
theorem dL_holds_54 : decode cL_holds 54 = .ok (.aload 5, 2) := by decide +kernel
theorem dL_holds_56 : decode cL_holds 56 = .ok (.aload 6, 2) := by decide +kernel
theorem dL_holds_58 : decode cL_holds 58 = .ok (.aload 8, 2) := by decide +kernel
theorem dL_holds_60 : decode cL_holds 60 = .ok (.invokestatic 172, 3) := by decide +kernel
theorem dL_holds_63 : decode cL_holds 63 = .ok (.istore 9, 2) := by decide +kernel
theorem dL_holds_65 : decode cL_holds 65 = .ok (.iconst 0, 1) := by decide +kernel
theorem dL_holds_66 : decode cL_holds 66 = .ok (.istore 10, 2) := by decide +kernel
theorem dL_holds_68 : decode cL_holds 68 = .ok (.iload 10, 2) := by decide +kernel
theorem dL_holds_70 : decode cL_holds 70 = .ok (.bipush 48, 2) := by decide +kernel
theorem dL_holds_72 : decode cL_holds 72 = .ok (.if_icmp .ge 379, 3) := by decide +kernel
theorem dL_holds_75 : decode cL_holds 75 = .ok (.iload 9, 2) := by decide +kernel
theorem dL_holds_77 : decode cL_holds 77 = .ok (.ifCond .eq 374, 3) := by decide +kernel
theorem dL_holds_80 : decode cL_holds 80 = .ok (.aload_n 0, 1) := by decide +kernel
theorem dL_holds_81 : decode cL_holds 81 = .ok (.iconst 2, 1) := by decide +kernel
theorem dL_holds_82 : decode cL_holds 82 = .ok (.iload 10, 2) := by decide +kernel
theorem dL_holds_84 : decode cL_holds 84 = .ok (.imul, 1) := by decide +kernel
theorem dL_holds_85 : decode cL_holds 85 = .ok (.bipush 32, 2) := by decide +kernel
theorem dL_holds_87 : decode cL_holds 87 = .ok (.invokestatic 149, 3) := by decide +kernel
theorem dL_holds_90 : decode cL_holds 90 = .ok (.istore 11, 2) := by decide +kernel
theorem dL_holds_92 : decode cL_holds 92 = .ok (.aload_n 0, 1) := by decide +kernel
theorem dL_holds_93 : decode cL_holds 93 = .ok (.iconst 2, 1) := by decide +kernel
theorem dL_holds_94 : decode cL_holds 94 = .ok (.iload 10, 2) := by decide +kernel
theorem dL_holds_96 : decode cL_holds 96 = .ok (.imul, 1) := by decide +kernel
theorem dL_holds_97 : decode cL_holds 97 = .ok (.iconst 1, 1) := by decide +kernel
theorem dL_holds_98 : decode cL_holds 98 = .ok (.iadd, 1) := by decide +kernel
theorem dL_holds_99 : decode cL_holds 99 = .ok (.ldc 166, 2) := by decide +kernel
theorem dL_holds_101 : decode cL_holds 101 = .ok (.invokestatic 149, 3) := by decide +kernel
theorem dL_holds_104 : decode cL_holds 104 = .ok (.istore 12, 2) := by decide +kernel
theorem dL_holds_106 : decode cL_holds 106 = .ok (.iload 12, 2) := by decide +kernel
theorem dL_holds_108 : decode cL_holds 108 = .ok (.iconst 2, 1) := by decide +kernel
theorem dL_holds_109 : decode cL_holds 109 = .ok (.irem, 1) := by decide +kernel
theorem dL_holds_110 : decode cL_holds 110 = .ok (.istore 13, 2) := by decide +kernel
theorem dL_holds_112 : decode cL_holds 112 = .ok (.iload 11, 2) := by decide +kernel
theorem dL_holds_114 : decode cL_holds 114 = .ok (.bipush 6, 2) := by decide +kernel
theorem dL_holds_116 : decode cL_holds 116 = .ok (.if_icmp .ge 40, 3) := by decide +kernel
theorem dL_holds_119 : decode cL_holds 119 = .ok (.aload_n 1, 1) := by decide +kernel
theorem dL_holds_120 : decode cL_holds 120 = .ok (.iload 13, 2) := by decide +kernel
theorem dL_holds_122 : decode cL_holds 122 = .ok (.ifCond .ne 7, 3) := by decide +kernel
theorem dL_holds_125 : decode cL_holds 125 = .ok (.aload_n 2, 1) := by decide +kernel
theorem dL_holds_126 : decode cL_holds 126 = .ok (.goto 4, 3) := by decide +kernel
theorem dL_holds_129 : decode cL_holds 129 = .ok (.aload_n 3, 1) := by decide +kernel
theorem dL_holds_130 : decode cL_holds 130 = .ok (.aload 4, 2) := by decide +kernel
theorem dL_holds_132 : decode cL_holds 132 = .ok (.aload 5, 2) := by decide +kernel
theorem dL_holds_134 : decode cL_holds 134 = .ok (.aload 6, 2) := by decide +kernel
theorem dL_holds_136 : decode cL_holds 136 = .ok (.aload 7, 2) := by decide +kernel
theorem dL_holds_138 : decode cL_holds 138 = .ok (.aload 8, 2) := by decide +kernel
theorem dL_holds_140 : decode cL_holds 140 = .ok (.iload 13, 2) := by decide +kernel
theorem dL_holds_142 : decode cL_holds 142 = .ok (.iload 12, 2) := by decide +kernel
theorem dL_holds_144 : decode cL_holds 144 = .ok (.iconst 2, 1) := by decide +kernel
theorem dL_holds_145 : decode cL_holds 145 = .ok (.idiv, 1) := by decide +kernel
theorem dL_holds_146 : decode cL_holds 146 = .ok (.iconst 3, 1) := by decide +kernel
theorem dL_holds_147 : decode cL_holds 147 = .ok (.irem, 1) := by decide +kernel
theorem dL_holds_148 : decode cL_holds 148 = .ok (.invokestatic 176, 3) := by decide +kernel
theorem dL_holds_151 : decode cL_holds 151 = .ok (.istore 9, 2) := by decide +kernel
theorem dL_holds_153 : decode cL_holds 153 = .ok (.goto 257, 3) := by decide +kernel
theorem dL_holds_156 : decode cL_holds 156 = .ok (.iload 11, 2) := by decide +kernel
theorem dL_holds_158 : decode cL_holds 158 = .ok (.bipush 12, 2) := by decide +kernel
theorem dL_holds_160 : decode cL_holds 160 = .ok (.if_icmp .ge 39, 3) := by decide +kernel
theorem dL_holds_163 : decode cL_holds 163 = .ok (.aload_n 2, 1) := by decide +kernel
theorem dL_holds_164 : decode cL_holds 164 = .ok (.aload_n 3, 1) := by decide +kernel
theorem dL_holds_165 : decode cL_holds 165 = .ok (.aload 4, 2) := by decide +kernel
theorem dL_holds_167 : decode cL_holds 167 = .ok (.aload 5, 2) := by decide +kernel
theorem dL_holds_169 : decode cL_holds 169 = .ok (.aload 6, 2) := by decide +kernel
theorem dL_holds_171 : decode cL_holds 171 = .ok (.aload 7, 2) := by decide +kernel
theorem dL_holds_173 : decode cL_holds 173 = .ok (.aload 8, 2) := by decide +kernel
theorem dL_holds_175 : decode cL_holds 175 = .ok (.invokestatic 45, 3) := by decide +kernel
theorem dL_holds_178 : decode cL_holds 178 = .ok (.istore 14, 2) := by decide +kernel
theorem dL_holds_180 : decode cL_holds 180 = .ok (.aload_n 1, 1) := by decide +kernel
theorem dL_holds_181 : decode cL_holds 181 = .ok (.invokevirtual 180, 3) := by decide +kernel
theorem dL_holds_184 : decode cL_holds 184 = .ok (.iload 14, 2) := by decide +kernel
theorem dL_holds_186 : decode cL_holds 186 = .ok (.if_icmp .ne 7, 3) := by decide +kernel
theorem dL_holds_189 : decode cL_holds 189 = .ok (.iconst 1, 1) := by decide +kernel
theorem dL_holds_190 : decode cL_holds 190 = .ok (.goto 4, 3) := by decide +kernel
theorem dL_holds_193 : decode cL_holds 193 = .ok (.iconst 0, 1) := by decide +kernel
theorem dL_holds_194 : decode cL_holds 194 = .ok (.istore 9, 2) := by decide +kernel
theorem dL_holds_196 : decode cL_holds 196 = .ok (.goto 214, 3) := by decide +kernel
theorem dL_holds_199 : decode cL_holds 199 = .ok (.iload 11, 2) := by decide +kernel
theorem dL_holds_201 : decode cL_holds 201 = .ok (.bipush 20, 2) := by decide +kernel
theorem dL_holds_203 : decode cL_holds 203 = .ok (.if_icmp .ge 58, 3) := by decide +kernel
theorem dL_holds_206 : decode cL_holds 206 = .ok (.aload_n 1, 1) := by decide +kernel
theorem dL_holds_207 : decode cL_holds 207 = .ok (.aload 5, 2) := by decide +kernel
theorem dL_holds_209 : decode cL_holds 209 = .ok (.aload 6, 2) := by decide +kernel
theorem dL_holds_211 : decode cL_holds 211 = .ok (.iload 11, 2) := by decide +kernel
theorem dL_holds_213 : decode cL_holds 213 = .ok (.bipush 14, 2) := by decide +kernel
theorem dL_holds_215 : decode cL_holds 215 = .ok (.if_icmp .ge 7, 3) := by decide +kernel
theorem dL_holds_218 : decode cL_holds 218 = .ok (.iconst 0, 1) := by decide +kernel
theorem dL_holds_219 : decode cL_holds 219 = .ok (.goto 32, 3) := by decide +kernel
theorem dL_holds_222 : decode cL_holds 222 = .ok (.iload 11, 2) := by decide +kernel
theorem dL_holds_224 : decode cL_holds 224 = .ok (.bipush 16, 2) := by decide +kernel
theorem dL_holds_226 : decode cL_holds 226 = .ok (.if_icmp .ge 7, 3) := by decide +kernel
theorem dL_holds_229 : decode cL_holds 229 = .ok (.iconst 4, 1) := by decide +kernel
theorem dL_holds_230 : decode cL_holds 230 = .ok (.goto 21, 3) := by decide +kernel
theorem dL_holds_233 : decode cL_holds 233 = .ok (.iload 11, 2) := by decide +kernel
theorem dL_holds_235 : decode cL_holds 235 = .ok (.bipush 15, 2) := by decide +kernel
theorem dL_holds_237 : decode cL_holds 237 = .ok (.isub, 1) := by decide +kernel
theorem dL_holds_238 : decode cL_holds 238 = .ok (.iconst 3, 1) := by decide +kernel
theorem dL_holds_239 : decode cL_holds 239 = .ok (.if_icmp .le 7, 3) := by decide +kernel
theorem dL_holds_242 : decode cL_holds 242 = .ok (.iconst 2, 1) := by decide +kernel
theorem dL_holds_243 : decode cL_holds 243 = .ok (.goto 8, 3) := by decide +kernel
theorem dL_holds_246 : decode cL_holds 246 = .ok (.iload 11, 2) := by decide +kernel
theorem dL_holds_248 : decode cL_holds 248 = .ok (.bipush 15, 2) := by decide +kernel
theorem dL_holds_250 : decode cL_holds 250 = .ok (.isub, 1) := by decide +kernel
theorem dL_holds_251 : decode cL_holds 251 = .ok (.iload 12, 2) := by decide +kernel
theorem dL_holds_253 : decode cL_holds 253 = .ok (.invokestatic 182, 3) := by decide +kernel
theorem dL_holds_256 : decode cL_holds 256 = .ok (.istore 9, 2) := by decide +kernel
theorem dL_holds_258 : decode cL_holds 258 = .ok (.goto 152, 3) := by decide +kernel
theorem dL_holds_261 : decode cL_holds 261 = .ok (.iload 11, 2) := by decide +kernel
theorem dL_holds_263 : decode cL_holds 263 = .ok (.bipush 26, 2) := by decide +kernel
theorem dL_holds_265 : decode cL_holds 265 = .ok (.if_icmp .ge 30, 3) := by decide +kernel
theorem dL_holds_268 : decode cL_holds 268 = .ok (.aload_n 1, 1) := by decide +kernel
theorem dL_holds_269 : decode cL_holds 269 = .ok (.iload 13, 2) := by decide +kernel
theorem dL_holds_271 : decode cL_holds 271 = .ok (.ifCond .ne 7, 3) := by decide +kernel
theorem dL_holds_274 : decode cL_holds 274 = .ok (.aload_n 2, 1) := by decide +kernel
theorem dL_holds_275 : decode cL_holds 275 = .ok (.goto 4, 3) := by decide +kernel
theorem dL_holds_278 : decode cL_holds 278 = .ok (.aload_n 3, 1) := by decide +kernel
theorem dL_holds_279 : decode cL_holds 279 = .ok (.aload 5, 2) := by decide +kernel
theorem dL_holds_281 : decode cL_holds 281 = .ok (.aload 6, 2) := by decide +kernel
theorem dL_holds_283 : decode cL_holds 283 = .ok (.aload 8, 2) := by decide +kernel
theorem dL_holds_285 : decode cL_holds 285 = .ok (.iload 13, 2) := by decide +kernel
theorem dL_holds_287 : decode cL_holds 287 = .ok (.invokestatic 186, 3) := by decide +kernel
theorem dL_holds_290 : decode cL_holds 290 = .ok (.istore 9, 2) := by decide +kernel
theorem dL_holds_292 : decode cL_holds 292 = .ok (.goto 118, 3) := by decide +kernel
theorem dL_holds_295 : decode cL_holds 295 = .ok (.iload 11, 2) := by decide +kernel
theorem dL_holds_297 : decode cL_holds 297 = .ok (.bipush 29, 2) := by decide +kernel
theorem dL_holds_299 : decode cL_holds 299 = .ok (.if_icmp .ge 37, 3) := by decide +kernel
theorem dL_holds_302 : decode cL_holds 302 = .ok (.aload 5, 2) := by decide +kernel
theorem dL_holds_304 : decode cL_holds 304 = .ok (.iload 12, 2) := by decide +kernel
theorem dL_holds_306 : decode cL_holds 306 = .ok (.iconst 4, 1) := by decide +kernel
theorem dL_holds_307 : decode cL_holds 307 = .ok (.irem, 1) := by decide +kernel
theorem dL_holds_308 : decode cL_holds 308 = .ok (.invokestatic 190, 3) := by decide +kernel
theorem dL_holds_311 : decode cL_holds 311 = .ok (.istore 14, 2) := by decide +kernel
theorem dL_holds_313 : decode cL_holds 313 = .ok (.aload_n 1, 1) := by decide +kernel
theorem dL_holds_314 : decode cL_holds 314 = .ok (.iload 12, 2) := by decide +kernel
theorem dL_holds_316 : decode cL_holds 316 = .ok (.iconst 4, 1) := by decide +kernel
theorem dL_holds_317 : decode cL_holds 317 = .ok (.irem, 1) := by decide +kernel
theorem dL_holds_318 : decode cL_holds 318 = .ok (.invokevirtual 193, 3) := by decide +kernel
theorem dL_holds_321 : decode cL_holds 321 = .ok (.iload 14, 2) := by decide +kernel
theorem dL_holds_323 : decode cL_holds 323 = .ok (.if_icmp .ne 7, 3) := by decide +kernel
theorem dL_holds_326 : decode cL_holds 326 = .ok (.iconst 1, 1) := by decide +kernel
theorem dL_holds_327 : decode cL_holds 327 = .ok (.goto 4, 3) := by decide +kernel
theorem dL_holds_330 : decode cL_holds 330 = .ok (.iconst 0, 1) := by decide +kernel
theorem dL_holds_331 : decode cL_holds 331 = .ok (.istore 9, 2) := by decide +kernel
theorem dL_holds_333 : decode cL_holds 333 = .ok (.goto 77, 3) := by decide +kernel
theorem dL_holds_336 : decode cL_holds 336 = .ok (.iload 11, 2) := by decide +kernel
theorem dL_holds_338 : decode cL_holds 338 = .ok (.bipush 29, 2) := by decide +kernel
theorem dL_holds_340 : decode cL_holds 340 = .ok (.if_icmp .ne 30, 3) := by decide +kernel
theorem dL_holds_343 : decode cL_holds 343 = .ok (.aload_n 1, 1) := by decide +kernel
theorem dL_holds_344 : decode cL_holds 344 = .ok (.iload 13, 2) := by decide +kernel
theorem dL_holds_346 : decode cL_holds 346 = .ok (.ifCond .ne 7, 3) := by decide +kernel
theorem dL_holds_349 : decode cL_holds 349 = .ok (.aload_n 2, 1) := by decide +kernel
theorem dL_holds_350 : decode cL_holds 350 = .ok (.goto 4, 3) := by decide +kernel
theorem dL_holds_353 : decode cL_holds 353 = .ok (.aload_n 3, 1) := by decide +kernel
theorem dL_holds_354 : decode cL_holds 354 = .ok (.aload 8, 2) := by decide +kernel
theorem dL_holds_356 : decode cL_holds 356 = .ok (.iload 13, 2) := by decide +kernel
theorem dL_holds_358 : decode cL_holds 358 = .ok (.iload 12, 2) := by decide +kernel
theorem dL_holds_360 : decode cL_holds 360 = .ok (.iconst 2, 1) := by decide +kernel
theorem dL_holds_361 : decode cL_holds 361 = .ok (.idiv, 1) := by decide +kernel
theorem dL_holds_362 : decode cL_holds 362 = .ok (.invokestatic 196, 3) := by decide +kernel
theorem dL_holds_365 : decode cL_holds 365 = .ok (.istore 9, 2) := by decide +kernel
theorem dL_holds_367 : decode cL_holds 367 = .ok (.goto 43, 3) := by decide +kernel
theorem dL_holds_370 : decode cL_holds 370 = .ok (.iload 11, 2) := by decide +kernel
theorem dL_holds_372 : decode cL_holds 372 = .ok (.bipush 30, 2) := by decide +kernel
theorem dL_holds_374 : decode cL_holds 374 = .ok (.if_icmp .ne 36, 3) := by decide +kernel
theorem dL_holds_377 : decode cL_holds 377 = .ok (.aload 8, 2) := by decide +kernel
theorem dL_holds_379 : decode cL_holds 379 = .ok (.bipush 10, 2) := by decide +kernel
theorem dL_holds_381 : decode cL_holds 381 = .ok (.iaload, 1) := by decide +kernel
theorem dL_holds_382 : decode cL_holds 382 = .ok (.ifCond .ne 28, 3) := by decide +kernel
theorem dL_holds_385 : decode cL_holds 385 = .ok (.aload_n 1, 1) := by decide +kernel
theorem dL_holds_386 : decode cL_holds 386 = .ok (.aload 4, 2) := by decide +kernel
theorem dL_holds_388 : decode cL_holds 388 = .ok (.iload 12, 2) := by decide +kernel
theorem dL_holds_390 : decode cL_holds 390 = .ok (.iconst 3, 1) := by decide +kernel
theorem dL_holds_391 : decode cL_holds 391 = .ok (.irem, 1) := by decide +kernel
theorem dL_holds_392 : decode cL_holds 392 = .ok (.iload 12, 2) := by decide +kernel
theorem dL_holds_394 : decode cL_holds 394 = .ok (.iconst 3, 1) := by decide +kernel
theorem dL_holds_395 : decode cL_holds 395 = .ok (.idiv, 1) := by decide +kernel
theorem dL_holds_396 : decode cL_holds 396 = .ok (.iconst 2, 1) := by decide +kernel
theorem dL_holds_397 : decode cL_holds 397 = .ok (.irem, 1) := by decide +kernel
theorem dL_holds_398 : decode cL_holds 398 = .ok (.iload 12, 2) := by decide +kernel
theorem dL_holds_400 : decode cL_holds 400 = .ok (.bipush 6, 2) := by decide +kernel
theorem dL_holds_402 : decode cL_holds 402 = .ok (.idiv, 1) := by decide +kernel
theorem dL_holds_403 : decode cL_holds 403 = .ok (.iconst 2, 1) := by decide +kernel
theorem dL_holds_404 : decode cL_holds 404 = .ok (.irem, 1) := by decide +kernel
theorem dL_holds_405 : decode cL_holds 405 = .ok (.invokestatic 120, 3) := by decide +kernel
theorem dL_holds_408 : decode cL_holds 408 = .ok (.istore 9, 2) := by decide +kernel
theorem dL_holds_410 : decode cL_holds 410 = .ok (.iload 9, 2) := by decide +kernel
theorem dL_holds_412 : decode cL_holds 412 = .ok (.ifCond .eq 30, 3) := by decide +kernel
theorem dL_holds_415 : decode cL_holds 415 = .ok (.aload_n 1, 1) := by decide +kernel
theorem dL_holds_416 : decode cL_holds 416 = .ok (.aload_n 2, 1) := by decide +kernel
theorem dL_holds_417 : decode cL_holds 417 = .ok (.aload_n 3, 1) := by decide +kernel
theorem dL_holds_418 : decode cL_holds 418 = .ok (.aload 4, 2) := by decide +kernel
theorem dL_holds_420 : decode cL_holds 420 = .ok (.aload 5, 2) := by decide +kernel
theorem dL_holds_422 : decode cL_holds 422 = .ok (.aload 6, 2) := by decide +kernel
theorem dL_holds_424 : decode cL_holds 424 = .ok (.aload 7, 2) := by decide +kernel
theorem dL_holds_426 : decode cL_holds 426 = .ok (.aload 8, 2) := by decide +kernel
theorem dL_holds_428 : decode cL_holds 428 = .ok (.iload 12, 2) := by decide +kernel
theorem dL_holds_430 : decode cL_holds 430 = .ok (.iconst 3, 1) := by decide +kernel
theorem dL_holds_431 : decode cL_holds 431 = .ok (.idiv, 1) := by decide +kernel
theorem dL_holds_432 : decode cL_holds 432 = .ok (.invokestatic 200, 3) := by decide +kernel
theorem dL_holds_435 : decode cL_holds 435 = .ok (.ifCond .eq 7, 3) := by decide +kernel
theorem dL_holds_438 : decode cL_holds 438 = .ok (.iconst 1, 1) := by decide +kernel
theorem dL_holds_439 : decode cL_holds 439 = .ok (.goto 4, 3) := by decide +kernel
theorem dL_holds_442 : decode cL_holds 442 = .ok (.iconst 0, 1) := by decide +kernel
theorem dL_holds_443 : decode cL_holds 443 = .ok (.istore 9, 2) := by decide +kernel
theorem dL_holds_445 : decode cL_holds 445 = .ok (.iinc 10 1, 3) := by decide +kernel
theorem dL_holds_448 : decode cL_holds 448 = .ok (.goto (-380), 3) := by decide +kernel
theorem dL_holds_451 : decode cL_holds 451 = .ok (.iload 9, 2) := by decide +kernel
theorem dL_holds_453 : decode cL_holds 453 = .ok (.ireturn, 1) := by decide +kernel
theorem dL_isHeld_0 : decode cL_isHeld 0 = .ok (.aload_n 0, 1) := by decide +kernel
theorem dL_isHeld_1 : decode cL_isHeld 1 = .ok (.invokestatic 204, 3) := by decide +kernel
theorem dL_isHeld_4 : decode cL_isHeld 4 = .ok (.ireturn, 1) := by decide +kernel
theorem dL_isHeld_5 : decode cL_isHeld 5 = .ok (.astore_n 1, 1) := by decide +kernel
theorem dL_isHeld_6 : decode cL_isHeld 6 = .ok (.iconst 0, 1) := by decide +kernel
theorem dL_isHeld_7 : decode cL_isHeld 7 = .ok (.ireturn, 1) := by decide +kernel
theorem dL_isHeld_8 : decode cL_isHeld 8 = .ok (.astore_n 1, 1) := by decide +kernel
theorem dL_isHeld_9 : decode cL_isHeld 9 = .ok (.iconst 0, 1) := by decide +kernel
theorem dL_isHeld_10 : decode cL_isHeld 10 = .ok (.ireturn, 1) := by decide +kernel
theorem dL_isHeld_11 : decode cL_isHeld 11 = .ok (.astore_n 1, 1) := by decide +kernel
theorem dL_isHeld_12 : decode cL_isHeld 12 = .ok (.iconst 0, 1) := by decide +kernel
theorem dL_isHeld_13 : decode cL_isHeld 13 = .ok (.ireturn, 1) := by decide +kernel
theorem dL_law_0 : decode cL_law 0 = .ok (.aload_n 0, 1) := by decide +kernel
theorem dL_law_1 : decode cL_law 1 = .ok (.invokestatic 214, 3) := by decide +kernel
theorem dL_law_4 : decode cL_law 4 = .ok (.ireturn, 1) := by decide +kernel
