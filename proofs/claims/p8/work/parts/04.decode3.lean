theorem d_MO_jump_32 : decode b_MO_jump 32 = .ok (.getfield 69, 3) := by decide +kernel
theorem d_MO_jump_35 : decode b_MO_jump 35 = .ok (.iload_n 2, 1) := by decide +kernel
theorem d_MO_jump_36 : decode b_MO_jump 36 = .ok (.iaload, 1) := by decide +kernel
theorem d_MO_jump_37 : decode b_MO_jump 37 = .ok (.iaload, 1) := by decide +kernel
theorem d_MO_jump_38 : decode b_MO_jump 38 = .ok (.iload_n 1, 1) := by decide +kernel
theorem d_MO_jump_39 : decode b_MO_jump 39 = .ok (.if_icmp .eq 9, 3) := by decide +kernel
theorem d_MO_jump_42 : decode b_MO_jump 42 = .ok (.iinc 2 (-1), 3) := by decide +kernel
theorem d_MO_jump_45 : decode b_MO_jump 45 = .ok (.goto (-38), 3) := by decide +kernel
theorem d_MO_jump_48 : decode b_MO_jump 48 = .ok (.iload_n 2, 1) := by decide +kernel
theorem d_MO_jump_49 : decode b_MO_jump 49 = .ok (.ifCond .ge 9, 3) := by decide +kernel
theorem d_MO_jump_52 : decode b_MO_jump 52 = .ok (.aload_n 0, 1) := by decide +kernel
theorem d_MO_jump_53 : decode b_MO_jump 53 = .ok (.iconst 5, 1) := by decide +kernel
theorem d_MO_jump_54 : decode b_MO_jump 54 = .ok (.invokevirtual 142, 3) := by decide +kernel
theorem d_MO_jump_57 : decode b_MO_jump 57 = .ok (.return_, 1) := by decide +kernel
theorem d_MO_jump_58 : decode b_MO_jump 58 = .ok (.aload_n 0, 1) := by decide +kernel
theorem d_MO_jump_59 : decode b_MO_jump 59 = .ok (.dup, 1) := by decide +kernel
theorem d_MO_jump_60 : decode b_MO_jump 60 = .ok (.getfield 199, 3) := by decide +kernel
theorem d_MO_jump_63 : decode b_MO_jump 63 = .ok (.iconst 1, 1) := by decide +kernel
theorem d_MO_jump_64 : decode b_MO_jump 64 = .ok (.iadd, 1) := by decide +kernel
theorem d_MO_jump_65 : decode b_MO_jump 65 = .ok (.putfield 199, 3) := by decide +kernel
theorem d_MO_jump_68 : decode b_MO_jump 68 = .ok (.aload_n 0, 1) := by decide +kernel
theorem d_MO_jump_69 : decode b_MO_jump 69 = .ok (.iload_n 2, 1) := by decide +kernel
theorem d_MO_jump_70 : decode b_MO_jump 70 = .ok (.iconst 1, 1) := by decide +kernel
theorem d_MO_jump_71 : decode b_MO_jump 71 = .ok (.iadd, 1) := by decide +kernel
theorem d_MO_jump_72 : decode b_MO_jump 72 = .ok (.putfield 146, 3) := by decide +kernel
theorem d_MO_jump_75 : decode b_MO_jump 75 = .ok (.aload_n 0, 1) := by decide +kernel
theorem d_MO_jump_76 : decode b_MO_jump 76 = .ok (.dconst 0, 1) := by decide +kernel
theorem d_MO_jump_77 : decode b_MO_jump 77 = .ok (.invokevirtual 162, 3) := by decide +kernel
theorem d_MO_jump_80 : decode b_MO_jump 80 = .ok (.return_, 1) := by decide +kernel
theorem d_MO_repeat_0 : decode b_MO_repeat 0 = .ok (.aload_n 0, 1) := by decide +kernel
theorem d_MO_repeat_1 : decode b_MO_repeat 1 = .ok (.getfield 75, 3) := by decide +kernel
theorem d_MO_repeat_4 : decode b_MO_repeat 4 = .ok (.iload_n 1, 1) := by decide +kernel
theorem d_MO_repeat_5 : decode b_MO_repeat 5 = .ok (.iaload, 1) := by decide +kernel
theorem d_MO_repeat_6 : decode b_MO_repeat 6 = .ok (.iconst 1, 1) := by decide +kernel
theorem d_MO_repeat_7 : decode b_MO_repeat 7 = .ok (.if_icmp .ne 18, 3) := by decide +kernel
theorem d_MO_repeat_10 : decode b_MO_repeat 10 = .ok (.aload_n 0, 1) := by decide +kernel
theorem d_MO_repeat_11 : decode b_MO_repeat 11 = .ok (.getfield 158, 3) := by decide +kernel
theorem d_MO_repeat_14 : decode b_MO_repeat 14 = .ok (.dconst 0, 1) := by decide +kernel
theorem d_MO_repeat_15 : decode b_MO_repeat 15 = .ok (.dcmp .l, 1) := by decide +kernel
theorem d_MO_repeat_16 : decode b_MO_repeat 16 = .ok (.ifCond .ne 9, 3) := by decide +kernel
theorem d_MO_repeat_19 : decode b_MO_repeat 19 = .ok (.aload_n 0, 1) := by decide +kernel
theorem d_MO_repeat_20 : decode b_MO_repeat 20 = .ok (.dconst 0, 1) := by decide +kernel
theorem d_MO_repeat_21 : decode b_MO_repeat 21 = .ok (.invokevirtual 162, 3) := by decide +kernel
theorem d_MO_repeat_24 : decode b_MO_repeat 24 = .ok (.return_, 1) := by decide +kernel
theorem d_MO_repeat_25 : decode b_MO_repeat 25 = .ok (.aload_n 0, 1) := by decide +kernel
theorem d_MO_repeat_26 : decode b_MO_repeat 26 = .ok (.getfield 75, 3) := by decide +kernel
theorem d_MO_repeat_29 : decode b_MO_repeat 29 = .ok (.iload_n 1, 1) := by decide +kernel
theorem d_MO_repeat_30 : decode b_MO_repeat 30 = .ok (.aload_n 0, 1) := by decide +kernel
theorem d_MO_repeat_31 : decode b_MO_repeat 31 = .ok (.getfield 75, 3) := by decide +kernel
theorem d_MO_repeat_34 : decode b_MO_repeat 34 = .ok (.iload_n 1, 1) := by decide +kernel
theorem d_MO_repeat_35 : decode b_MO_repeat 35 = .ok (.iaload, 1) := by decide +kernel
theorem d_MO_repeat_36 : decode b_MO_repeat 36 = .ok (.iconst 1, 1) := by decide +kernel
theorem d_MO_repeat_37 : decode b_MO_repeat 37 = .ok (.if_icmp .ne 7, 3) := by decide +kernel
theorem d_MO_repeat_40 : decode b_MO_repeat 40 = .ok (.iconst 2, 1) := by decide +kernel
theorem d_MO_repeat_41 : decode b_MO_repeat 41 = .ok (.goto 4, 3) := by decide +kernel
theorem d_MO_repeat_44 : decode b_MO_repeat 44 = .ok (.iconst 1, 1) := by decide +kernel
theorem d_MO_repeat_45 : decode b_MO_repeat 45 = .ok (.iastore, 1) := by decide +kernel
theorem d_MO_repeat_46 : decode b_MO_repeat 46 = .ok (.aload_n 0, 1) := by decide +kernel
theorem d_MO_repeat_47 : decode b_MO_repeat 47 = .ok (.aload_n 0, 1) := by decide +kernel
theorem d_MO_repeat_48 : decode b_MO_repeat 48 = .ok (.getfield 75, 3) := by decide +kernel
theorem d_MO_repeat_51 : decode b_MO_repeat 51 = .ok (.iload_n 1, 1) := by decide +kernel
theorem d_MO_repeat_52 : decode b_MO_repeat 52 = .ok (.iaload, 1) := by decide +kernel
theorem d_MO_repeat_53 : decode b_MO_repeat 53 = .ok (.iconst 2, 1) := by decide +kernel
theorem d_MO_repeat_54 : decode b_MO_repeat 54 = .ok (.if_icmp .ne 12, 3) := by decide +kernel
theorem d_MO_repeat_57 : decode b_MO_repeat 57 = .ok (.aload_n 0, 1) := by decide +kernel
theorem d_MO_repeat_58 : decode b_MO_repeat 58 = .ok (.getfield 16, 3) := by decide +kernel
theorem d_MO_repeat_61 : decode b_MO_repeat 61 = .ok (.iload_n 2, 1) := by decide +kernel
theorem d_MO_repeat_62 : decode b_MO_repeat 62 = .ok (.iaload, 1) := by decide +kernel
theorem d_MO_repeat_63 : decode b_MO_repeat 63 = .ok (.goto 9, 3) := by decide +kernel
theorem d_MO_repeat_66 : decode b_MO_repeat 66 = .ok (.aload_n 0, 1) := by decide +kernel
theorem d_MO_repeat_67 : decode b_MO_repeat 67 = .ok (.getfield 13, 3) := by decide +kernel
theorem d_MO_repeat_70 : decode b_MO_repeat 70 = .ok (.iload_n 2, 1) := by decide +kernel
theorem d_MO_repeat_71 : decode b_MO_repeat 71 = .ok (.iaload, 1) := by decide +kernel
theorem d_MO_repeat_72 : decode b_MO_repeat 72 = .ok (.aload_n 0, 1) := by decide +kernel
theorem d_MO_repeat_73 : decode b_MO_repeat 73 = .ok (.getfield 72, 3) := by decide +kernel
theorem d_MO_repeat_76 : decode b_MO_repeat 76 = .ok (.iload_n 1, 1) := by decide +kernel
theorem d_MO_repeat_77 : decode b_MO_repeat 77 = .ok (.iaload, 1) := by decide +kernel
theorem d_MO_repeat_78 : decode b_MO_repeat 78 = .ok (.invokevirtual 166, 3) := by decide +kernel
theorem d_MO_repeat_81 : decode b_MO_repeat 81 = .ok (.return_, 1) := by decide +kernel
theorem d_MO_step_0 : decode b_MO_step 0 = .ok (.aload_n 0, 1) := by decide +kernel
theorem d_MO_step_1 : decode b_MO_step 1 = .ok (.getfield 146, 3) := by decide +kernel
theorem d_MO_step_4 : decode b_MO_step 4 = .ok (.iconst 1, 1) := by decide +kernel
theorem d_MO_step_5 : decode b_MO_step 5 = .ok (.isub, 1) := by decide +kernel
theorem d_MO_step_6 : decode b_MO_step 6 = .ok (.istore_n 1, 1) := by decide +kernel
theorem d_MO_step_7 : decode b_MO_step 7 = .ok (.aload_n 0, 1) := by decide +kernel
theorem d_MO_step_8 : decode b_MO_step 8 = .ok (.getfield 69, 3) := by decide +kernel
theorem d_MO_step_11 : decode b_MO_step 11 = .ok (.iload_n 1, 1) := by decide +kernel
theorem d_MO_step_12 : decode b_MO_step 12 = .ok (.iaload, 1) := by decide +kernel
theorem d_MO_step_13 : decode b_MO_step 13 = .ok (.istore_n 2, 1) := by decide +kernel
theorem d_MO_step_14 : decode b_MO_step 14 = .ok (.aload_n 0, 1) := by decide +kernel
theorem d_MO_step_15 : decode b_MO_step 15 = .ok (.getfield 7, 3) := by decide +kernel
theorem d_MO_step_18 : decode b_MO_step 18 = .ok (.iload_n 2, 1) := by decide +kernel
theorem d_MO_step_19 : decode b_MO_step 19 = .ok (.iaload, 1) := by decide +kernel
theorem d_MO_step_20 : decode b_MO_step 20 = .ok (.istore_n 3, 1) := by decide +kernel
theorem d_MO_step_21 : decode b_MO_step 21 = .ok (.aload_n 0, 1) := by decide +kernel
theorem d_MO_step_22 : decode b_MO_step 22 = .ok (.getfield 13, 3) := by decide +kernel
theorem d_MO_step_25 : decode b_MO_step 25 = .ok (.iload_n 2, 1) := by decide +kernel
theorem d_MO_step_26 : decode b_MO_step 26 = .ok (.iaload, 1) := by decide +kernel
theorem d_MO_step_27 : decode b_MO_step 27 = .ok (.istore 4, 2) := by decide +kernel
theorem d_MO_step_29 : decode b_MO_step 29 = .ok (.aload_n 0, 1) := by decide +kernel
theorem d_MO_step_30 : decode b_MO_step 30 = .ok (.getfield 75, 3) := by decide +kernel
theorem d_MO_step_33 : decode b_MO_step 33 = .ok (.iload_n 1, 1) := by decide +kernel
theorem d_MO_step_34 : decode b_MO_step 34 = .ok (.iaload, 1) := by decide +kernel
theorem d_MO_step_35 : decode b_MO_step 35 = .ok (.istore 5, 2) := by decide +kernel
theorem d_MO_step_37 : decode b_MO_step 37 = .ok (.iload_n 3, 1) := by decide +kernel
theorem d_MO_step_38 : decode b_MO_step 38 = .ok (.tableswitch 299 0 17 #[86, 98, 299, 299, 299, 299, 299, 299, 299, 184, 110, 118, 156, 163, 184, 170, 177, 184], 86) := by decide +kernel
theorem d_MO_step_124 : decode b_MO_step 124 = .ok (.aload_n 0, 1) := by decide +kernel
theorem d_MO_step_125 : decode b_MO_step 125 = .ok (.iload 4, 2) := by decide +kernel
theorem d_MO_step_127 : decode b_MO_step 127 = .ok (.i2d, 1) := by decide +kernel
theorem d_MO_step_128 : decode b_MO_step 128 = .ok (.ldc2_w 202, 3) := by decide +kernel
theorem d_MO_step_131 : decode b_MO_step 131 = .ok (.ddiv, 1) := by decide +kernel
theorem d_MO_step_132 : decode b_MO_step 132 = .ok (.invokevirtual 162, 3) := by decide +kernel
theorem d_MO_step_135 : decode b_MO_step 135 = .ok (.return_, 1) := by decide +kernel
theorem d_MO_step_136 : decode b_MO_step 136 = .ok (.aload_n 0, 1) := by decide +kernel
theorem d_MO_step_137 : decode b_MO_step 137 = .ok (.aload_n 0, 1) := by decide +kernel
theorem d_MO_step_138 : decode b_MO_step 138 = .ok (.getfield 31, 3) := by decide +kernel
theorem d_MO_step_141 : decode b_MO_step 141 = .ok (.iload 4, 2) := by decide +kernel
theorem d_MO_step_143 : decode b_MO_step 143 = .ok (.daload, 1) := by decide +kernel
theorem d_MO_step_144 : decode b_MO_step 144 = .ok (.invokevirtual 162, 3) := by decide +kernel
theorem d_MO_step_147 : decode b_MO_step 147 = .ok (.return_, 1) := by decide +kernel
theorem d_MO_step_148 : decode b_MO_step 148 = .ok (.aload_n 0, 1) := by decide +kernel
theorem d_MO_step_149 : decode b_MO_step 149 = .ok (.iload_n 1, 1) := by decide +kernel
theorem d_MO_step_150 : decode b_MO_step 150 = .ok (.iload 4, 2) := by decide +kernel
theorem d_MO_step_152 : decode b_MO_step 152 = .ok (.invokevirtual 204, 3) := by decide +kernel
theorem d_MO_step_155 : decode b_MO_step 155 = .ok (.return_, 1) := by decide +kernel
theorem d_MO_step_156 : decode b_MO_step 156 = .ok (.aload_n 0, 1) := by decide +kernel
theorem d_MO_step_157 : decode b_MO_step 157 = .ok (.getfield 72, 3) := by decide +kernel
theorem d_MO_step_160 : decode b_MO_step 160 = .ok (.iload_n 1, 1) := by decide +kernel
theorem d_MO_step_161 : decode b_MO_step 161 = .ok (.iaload, 1) := by decide +kernel
theorem d_MO_step_162 : decode b_MO_step 162 = .ok (.ifCond .ne 11, 3) := by decide +kernel
theorem d_MO_step_165 : decode b_MO_step 165 = .ok (.aload_n 0, 1) := by decide +kernel
theorem d_MO_step_166 : decode b_MO_step 166 = .ok (.iconst 4, 1) := by decide +kernel
theorem d_MO_step_167 : decode b_MO_step 167 = .ok (.invokevirtual 142, 3) := by decide +kernel
theorem d_MO_step_170 : decode b_MO_step 170 = .ok (.goto 23, 3) := by decide +kernel
theorem d_MO_step_173 : decode b_MO_step 173 = .ok (.aload_n 0, 1) := by decide +kernel
theorem d_MO_step_174 : decode b_MO_step 174 = .ok (.aload_n 0, 1) := by decide +kernel
theorem d_MO_step_175 : decode b_MO_step 175 = .ok (.getfield 66, 3) := by decide +kernel
theorem d_MO_step_178 : decode b_MO_step 178 = .ok (.iconst 2, 1) := by decide +kernel
theorem d_MO_step_179 : decode b_MO_step 179 = .ok (.aload_n 0, 1) := by decide +kernel
theorem d_MO_step_180 : decode b_MO_step 180 = .ok (.getfield 72, 3) := by decide +kernel
theorem d_MO_step_183 : decode b_MO_step 183 = .ok (.iload_n 1, 1) := by decide +kernel
theorem d_MO_step_184 : decode b_MO_step 184 = .ok (.iaload, 1) := by decide +kernel
theorem d_MO_step_185 : decode b_MO_step 185 = .ok (.imul, 1) := by decide +kernel
theorem d_MO_step_186 : decode b_MO_step 186 = .ok (.iload 4, 2) := by decide +kernel
theorem d_MO_step_188 : decode b_MO_step 188 = .ok (.iadd, 1) := by decide +kernel
theorem d_MO_step_189 : decode b_MO_step 189 = .ok (.daload, 1) := by decide +kernel
theorem d_MO_step_190 : decode b_MO_step 190 = .ok (.invokevirtual 162, 3) := by decide +kernel
theorem d_MO_step_193 : decode b_MO_step 193 = .ok (.return_, 1) := by decide +kernel
theorem d_MO_step_194 : decode b_MO_step 194 = .ok (.aload_n 0, 1) := by decide +kernel
theorem d_MO_step_195 : decode b_MO_step 195 = .ok (.iload_n 1, 1) := by decide +kernel
theorem d_MO_step_196 : decode b_MO_step 196 = .ok (.iload_n 2, 1) := by decide +kernel
theorem d_MO_step_197 : decode b_MO_step 197 = .ok (.invokevirtual 207, 3) := by decide +kernel
theorem d_MO_step_200 : decode b_MO_step 200 = .ok (.return_, 1) := by decide +kernel
theorem d_MO_step_201 : decode b_MO_step 201 = .ok (.aload_n 0, 1) := by decide +kernel
theorem d_MO_step_202 : decode b_MO_step 202 = .ok (.iload_n 1, 1) := by decide +kernel
theorem d_MO_step_203 : decode b_MO_step 203 = .ok (.iload_n 2, 1) := by decide +kernel
theorem d_MO_step_204 : decode b_MO_step 204 = .ok (.invokevirtual 210, 3) := by decide +kernel
theorem d_MO_step_207 : decode b_MO_step 207 = .ok (.return_, 1) := by decide +kernel
theorem d_MO_step_208 : decode b_MO_step 208 = .ok (.aload_n 0, 1) := by decide +kernel
theorem d_MO_step_209 : decode b_MO_step 209 = .ok (.iload_n 1, 1) := by decide +kernel
theorem d_MO_step_210 : decode b_MO_step 210 = .ok (.iload_n 2, 1) := by decide +kernel
theorem d_MO_step_211 : decode b_MO_step 211 = .ok (.invokevirtual 213, 3) := by decide +kernel
theorem d_MO_step_214 : decode b_MO_step 214 = .ok (.return_, 1) := by decide +kernel
theorem d_MO_step_215 : decode b_MO_step 215 = .ok (.aload_n 0, 1) := by decide +kernel
theorem d_MO_step_216 : decode b_MO_step 216 = .ok (.iload 4, 2) := by decide +kernel
theorem d_MO_step_218 : decode b_MO_step 218 = .ok (.invokevirtual 216, 3) := by decide +kernel
theorem d_MO_step_221 : decode b_MO_step 221 = .ok (.return_, 1) := by decide +kernel
theorem d_MO_step_222 : decode b_MO_step 222 = .ok (.aload_n 0, 1) := by decide +kernel
theorem d_MO_step_223 : decode b_MO_step 223 = .ok (.getfield 75, 3) := by decide +kernel
theorem d_MO_step_226 : decode b_MO_step 226 = .ok (.iload_n 1, 1) := by decide +kernel
theorem d_MO_step_227 : decode b_MO_step 227 = .ok (.dup2, 1) := by decide +kernel
theorem d_MO_step_228 : decode b_MO_step 228 = .ok (.iaload, 1) := by decide +kernel
theorem d_MO_step_229 : decode b_MO_step 229 = .ok (.iconst 1, 1) := by decide +kernel
theorem d_MO_step_230 : decode b_MO_step 230 = .ok (.iadd, 1) := by decide +kernel
theorem d_MO_step_231 : decode b_MO_step 231 = .ok (.iastore, 1) := by decide +kernel
theorem d_MO_step_232 : decode b_MO_step 232 = .ok (.iload 5, 2) := by decide +kernel
theorem d_MO_step_234 : decode b_MO_step 234 = .ok (.iconst 2, 1) := by decide +kernel
theorem d_MO_step_235 : decode b_MO_step 235 = .ok (.if_icmp .eq 15, 3) := by decide +kernel
theorem d_MO_step_238 : decode b_MO_step 238 = .ok (.iload 5, 2) := by decide +kernel
theorem d_MO_step_240 : decode b_MO_step 240 = .ok (.iconst 1, 1) := by decide +kernel
theorem d_MO_step_241 : decode b_MO_step 241 = .ok (.if_icmp .ne 20, 3) := by decide +kernel
theorem d_MO_step_244 : decode b_MO_step 244 = .ok (.iload_n 3, 1) := by decide +kernel
theorem d_MO_step_245 : decode b_MO_step 245 = .ok (.bipush 17, 2) := by decide +kernel
theorem d_MO_step_247 : decode b_MO_step 247 = .ok (.if_icmp .ne 14, 3) := by decide +kernel
theorem d_MO_step_250 : decode b_MO_step 250 = .ok (.aload_n 0, 1) := by decide +kernel
theorem d_MO_step_251 : decode b_MO_step 251 = .ok (.aload_n 0, 1) := by decide +kernel
theorem d_MO_step_252 : decode b_MO_step 252 = .ok (.getfield 158, 3) := by decide +kernel
theorem d_MO_step_255 : decode b_MO_step 255 = .ok (.invokevirtual 162, 3) := by decide +kernel
theorem d_MO_step_258 : decode b_MO_step 258 = .ok (.goto 78, 3) := by decide +kernel
theorem d_MO_step_261 : decode b_MO_step 261 = .ok (.iload 5, 2) := by decide +kernel
theorem d_MO_step_263 : decode b_MO_step 263 = .ok (.ifCond .ne 33, 3) := by decide +kernel
theorem d_MO_step_266 : decode b_MO_step 266 = .ok (.aload_n 0, 1) := by decide +kernel
theorem d_MO_step_267 : decode b_MO_step 267 = .ok (.iload_n 3, 1) := by decide +kernel
theorem d_MO_step_268 : decode b_MO_step 268 = .ok (.bipush 17, 2) := by decide +kernel
theorem d_MO_step_270 : decode b_MO_step 270 = .ok (.if_icmp .ne 12, 3) := by decide +kernel
theorem d_MO_step_273 : decode b_MO_step 273 = .ok (.aload_n 0, 1) := by decide +kernel
theorem d_MO_step_274 : decode b_MO_step 274 = .ok (.getfield 16, 3) := by decide +kernel
theorem d_MO_step_277 : decode b_MO_step 277 = .ok (.iload_n 2, 1) := by decide +kernel
theorem d_MO_step_278 : decode b_MO_step 278 = .ok (.iaload, 1) := by decide +kernel
theorem d_MO_step_279 : decode b_MO_step 279 = .ok (.goto 5, 3) := by decide +kernel
theorem d_MO_step_282 : decode b_MO_step 282 = .ok (.iload 4, 2) := by decide +kernel
theorem d_MO_step_284 : decode b_MO_step 284 = .ok (.aload_n 0, 1) := by decide +kernel
theorem d_MO_step_285 : decode b_MO_step 285 = .ok (.getfield 72, 3) := by decide +kernel
theorem d_MO_step_288 : decode b_MO_step 288 = .ok (.iload_n 1, 1) := by decide +kernel
theorem d_MO_step_289 : decode b_MO_step 289 = .ok (.iaload, 1) := by decide +kernel
theorem d_MO_step_290 : decode b_MO_step 290 = .ok (.invokevirtual 166, 3) := by decide +kernel
theorem d_MO_step_293 : decode b_MO_step 293 = .ok (.goto 43, 3) := by decide +kernel
theorem d_MO_step_296 : decode b_MO_step 296 = .ok (.aload_n 0, 1) := by decide +kernel
theorem d_MO_step_297 : decode b_MO_step 297 = .ok (.iload_n 3, 1) := by decide +kernel
theorem d_MO_step_298 : decode b_MO_step 298 = .ok (.bipush 14, 2) := by decide +kernel
theorem d_MO_step_300 : decode b_MO_step 300 = .ok (.if_icmp .eq 12, 3) := by decide +kernel
theorem d_MO_step_303 : decode b_MO_step 303 = .ok (.aload_n 0, 1) := by decide +kernel
theorem d_MO_step_304 : decode b_MO_step 304 = .ok (.getfield 158, 3) := by decide +kernel
theorem d_MO_step_307 : decode b_MO_step 307 = .ok (.dconst 0, 1) := by decide +kernel
theorem d_MO_step_308 : decode b_MO_step 308 = .ok (.dcmp .l, 1) := by decide +kernel
theorem d_MO_step_309 : decode b_MO_step 309 = .ok (.ifCond .eq 12, 3) := by decide +kernel
theorem d_MO_step_312 : decode b_MO_step 312 = .ok (.aload_n 0, 1) := by decide +kernel
theorem d_MO_step_313 : decode b_MO_step 313 = .ok (.getfield 16, 3) := by decide +kernel
theorem d_MO_step_316 : decode b_MO_step 316 = .ok (.iload_n 2, 1) := by decide +kernel
theorem d_MO_step_317 : decode b_MO_step 317 = .ok (.iaload, 1) := by decide +kernel
theorem d_MO_step_318 : decode b_MO_step 318 = .ok (.goto 9, 3) := by decide +kernel
theorem d_MO_step_321 : decode b_MO_step 321 = .ok (.aload_n 0, 1) := by decide +kernel
theorem d_MO_step_322 : decode b_MO_step 322 = .ok (.getfield 19, 3) := by decide +kernel
theorem d_MO_step_325 : decode b_MO_step 325 = .ok (.iload_n 2, 1) := by decide +kernel
theorem d_MO_step_326 : decode b_MO_step 326 = .ok (.iaload, 1) := by decide +kernel
theorem d_MO_step_327 : decode b_MO_step 327 = .ok (.aload_n 0, 1) := by decide +kernel
theorem d_MO_step_328 : decode b_MO_step 328 = .ok (.getfield 72, 3) := by decide +kernel
theorem d_MO_step_331 : decode b_MO_step 331 = .ok (.iload_n 1, 1) := by decide +kernel
theorem d_MO_step_332 : decode b_MO_step 332 = .ok (.iaload, 1) := by decide +kernel
theorem d_MO_step_333 : decode b_MO_step 333 = .ok (.invokevirtual 166, 3) := by decide +kernel
theorem d_MO_step_336 : decode b_MO_step 336 = .ok (.return_, 1) := by decide +kernel
theorem d_MO_step_337 : decode b_MO_step 337 = .ok (.aload_n 0, 1) := by decide +kernel
theorem d_MO_step_338 : decode b_MO_step 338 = .ok (.iload_n 1, 1) := by decide +kernel
theorem d_MO_step_339 : decode b_MO_step 339 = .ok (.iload_n 2, 1) := by decide +kernel
theorem d_MO_step_340 : decode b_MO_step 340 = .ok (.invokevirtual 219, 3) := by decide +kernel
theorem d_MO_step_343 : decode b_MO_step 343 = .ok (.return_, 1) := by decide +kernel
theorem d_MO_work_0 : decode b_MO_work 0 = .ok (.aload_n 0, 1) := by decide +kernel
theorem d_MO_work_1 : decode b_MO_work 1 = .ok (.iload_n 1, 1) := by decide +kernel
theorem d_MO_work_2 : decode b_MO_work 2 = .ok (.invokevirtual 112, 3) := by decide +kernel
theorem d_MO_work_5 : decode b_MO_work 5 = .ok (.istore_n 2, 1) := by decide +kernel
theorem d_MO_work_6 : decode b_MO_work 6 = .ok (.aload_n 0, 1) := by decide +kernel
theorem d_MO_work_7 : decode b_MO_work 7 = .ok (.iload_n 2, 1) := by decide +kernel
theorem d_MO_work_8 : decode b_MO_work 8 = .ok (.ifCond .eq 7, 3) := by decide +kernel
theorem d_MO_work_11 : decode b_MO_work 11 = .ok (.iconst 0, 1) := by decide +kernel
theorem d_MO_work_12 : decode b_MO_work 12 = .ok (.goto 4, 3) := by decide +kernel
theorem d_MO_work_15 : decode b_MO_work 15 = .ok (.iconst 1, 1) := by decide +kernel
theorem d_MO_work_16 : decode b_MO_work 16 = .ok (.putfield 96, 3) := by decide +kernel
theorem d_MO_work_19 : decode b_MO_work 19 = .ok (.iload_n 2, 1) := by decide +kernel
theorem d_MO_work_20 : decode b_MO_work 20 = .ok (.ifCond .ne 5, 3) := by decide +kernel
theorem d_MO_work_23 : decode b_MO_work 23 = .ok (.dconst 0, 1) := by decide +kernel
theorem d_MO_work_24 : decode b_MO_work 24 = .ok (.dreturn, 1) := by decide +kernel
theorem d_MO_work_25 : decode b_MO_work 25 = .ok (.aload_n 0, 1) := by decide +kernel
theorem d_MO_work_26 : decode b_MO_work 26 = .ok (.iconst 0, 1) := by decide +kernel
theorem d_MO_work_27 : decode b_MO_work 27 = .ok (.putfield 146, 3) := by decide +kernel
theorem d_MO_work_30 : decode b_MO_work 30 = .ok (.aload_n 0, 1) := by decide +kernel
theorem d_MO_work_31 : decode b_MO_work 31 = .ok (.iconst 0, 1) := by decide +kernel
theorem d_MO_work_32 : decode b_MO_work 32 = .ok (.putfield 139, 3) := by decide +kernel
theorem d_MO_work_35 : decode b_MO_work 35 = .ok (.aload_n 0, 1) := by decide +kernel
theorem d_MO_work_36 : decode b_MO_work 36 = .ok (.iconst 0, 1) := by decide +kernel
theorem d_MO_work_37 : decode b_MO_work 37 = .ok (.putfield 136, 3) := by decide +kernel
theorem d_MO_work_40 : decode b_MO_work 40 = .ok (.aload_n 0, 1) := by decide +kernel
theorem d_MO_work_41 : decode b_MO_work 41 = .ok (.iconst 0, 1) := by decide +kernel
theorem d_MO_work_42 : decode b_MO_work 42 = .ok (.putfield 187, 3) := by decide +kernel
theorem d_MO_work_45 : decode b_MO_work 45 = .ok (.aload_n 0, 1) := by decide +kernel
theorem d_MO_work_46 : decode b_MO_work 46 = .ok (.iconst 0, 1) := by decide +kernel
theorem d_MO_work_47 : decode b_MO_work 47 = .ok (.putfield 155, 3) := by decide +kernel
theorem d_MO_work_50 : decode b_MO_work 50 = .ok (.aload_n 0, 1) := by decide +kernel
theorem d_MO_work_51 : decode b_MO_work 51 = .ok (.iconst 0, 1) := by decide +kernel
theorem d_MO_work_52 : decode b_MO_work 52 = .ok (.putfield 199, 3) := by decide +kernel
theorem d_MO_work_55 : decode b_MO_work 55 = .ok (.aload_n 0, 1) := by decide +kernel
theorem d_MO_work_56 : decode b_MO_work 56 = .ok (.iconst 0, 1) := by decide +kernel
theorem d_MO_work_57 : decode b_MO_work 57 = .ok (.putfield 149, 3) := by decide +kernel
theorem d_MO_work_60 : decode b_MO_work 60 = .ok (.aload_n 0, 1) := by decide +kernel
theorem d_MO_work_61 : decode b_MO_work 61 = .ok (.iconst 0, 1) := by decide +kernel
theorem d_MO_work_62 : decode b_MO_work 62 = .ok (.putfield 152, 3) := by decide +kernel
theorem d_MO_work_65 : decode b_MO_work 65 = .ok (.aload_n 0, 1) := by decide +kernel
theorem d_MO_work_66 : decode b_MO_work 66 = .ok (.iload_n 1, 1) := by decide +kernel
theorem d_MO_work_67 : decode b_MO_work 67 = .ok (.iconst 0, 1) := by decide +kernel
theorem d_MO_work_68 : decode b_MO_work 68 = .ok (.invokevirtual 166, 3) := by decide +kernel
theorem d_MO_work_71 : decode b_MO_work 71 = .ok (.aload_n 0, 1) := by decide +kernel
theorem d_MO_work_72 : decode b_MO_work 72 = .ok (.getfield 146, 3) := by decide +kernel
theorem d_MO_work_75 : decode b_MO_work 75 = .ok (.ifCond .le 17, 3) := by decide +kernel
theorem d_MO_work_78 : decode b_MO_work 78 = .ok (.aload_n 0, 1) := by decide +kernel
theorem d_MO_work_79 : decode b_MO_work 79 = .ok (.getfield 136, 3) := by decide +kernel
theorem d_MO_work_82 : decode b_MO_work 82 = .ok (.ifCond .ne 10, 3) := by decide +kernel
theorem d_MO_work_85 : decode b_MO_work 85 = .ok (.aload_n 0, 1) := by decide +kernel
theorem d_MO_work_86 : decode b_MO_work 86 = .ok (.invokevirtual 222, 3) := by decide +kernel
theorem d_MO_work_89 : decode b_MO_work 89 = .ok (.goto (-18), 3) := by decide +kernel
theorem d_MO_work_92 : decode b_MO_work 92 = .ok (.aload_n 0, 1) := by decide +kernel
theorem d_MO_work_93 : decode b_MO_work 93 = .ok (.aload_n 0, 1) := by decide +kernel
theorem d_MO_work_94 : decode b_MO_work 94 = .ok (.getfield 136, 3) := by decide +kernel
theorem d_MO_work_97 : decode b_MO_work 97 = .ok (.ifCond .ne 7, 3) := by decide +kernel
theorem d_MO_work_100 : decode b_MO_work 100 = .ok (.iconst 0, 1) := by decide +kernel
theorem d_MO_work_101 : decode b_MO_work 101 = .ok (.goto 62, 3) := by decide +kernel
theorem d_MO_work_104 : decode b_MO_work 104 = .ok (.aload_n 0, 1) := by decide +kernel
theorem d_MO_work_105 : decode b_MO_work 105 = .ok (.getfield 136, 3) := by decide +kernel
theorem d_MO_work_108 : decode b_MO_work 108 = .ok (.iconst 3, 1) := by decide +kernel
theorem d_MO_work_109 : decode b_MO_work 109 = .ok (.if_icmp .ge 7, 3) := by decide +kernel
theorem d_MO_work_112 : decode b_MO_work 112 = .ok (.iconst 2, 1) := by decide +kernel
theorem d_MO_work_113 : decode b_MO_work 113 = .ok (.goto 50, 3) := by decide +kernel
theorem d_MO_work_116 : decode b_MO_work 116 = .ok (.aload_n 0, 1) := by decide +kernel
theorem d_MO_work_117 : decode b_MO_work 117 = .ok (.getfield 136, 3) := by decide +kernel
theorem d_MO_work_120 : decode b_MO_work 120 = .ok (.iconst 3, 1) := by decide +kernel
theorem d_MO_work_121 : decode b_MO_work 121 = .ok (.if_icmp .ne 7, 3) := by decide +kernel
theorem d_MO_work_124 : decode b_MO_work 124 = .ok (.iconst 3, 1) := by decide +kernel
theorem d_MO_work_125 : decode b_MO_work 125 = .ok (.goto 38, 3) := by decide +kernel
theorem d_MO_work_128 : decode b_MO_work 128 = .ok (.aload_n 0, 1) := by decide +kernel
theorem d_MO_work_129 : decode b_MO_work 129 = .ok (.getfield 136, 3) := by decide +kernel
theorem d_MO_work_132 : decode b_MO_work 132 = .ok (.iconst 4, 1) := by decide +kernel
theorem d_MO_work_133 : decode b_MO_work 133 = .ok (.if_icmp .eq 12, 3) := by decide +kernel
theorem d_MO_work_136 : decode b_MO_work 136 = .ok (.aload_n 0, 1) := by decide +kernel
theorem d_MO_work_137 : decode b_MO_work 137 = .ok (.getfield 136, 3) := by decide +kernel
theorem d_MO_work_140 : decode b_MO_work 140 = .ok (.bipush 6, 2) := by decide +kernel
theorem d_MO_work_142 : decode b_MO_work 142 = .ok (.if_icmp .ne 7, 3) := by decide +kernel
theorem d_MO_work_145 : decode b_MO_work 145 = .ok (.iconst 4, 1) := by decide +kernel
theorem d_MO_work_146 : decode b_MO_work 146 = .ok (.goto 17, 3) := by decide +kernel
theorem d_MO_work_149 : decode b_MO_work 149 = .ok (.aload_n 0, 1) := by decide +kernel
theorem d_MO_work_150 : decode b_MO_work 150 = .ok (.getfield 136, 3) := by decide +kernel
theorem d_MO_work_153 : decode b_MO_work 153 = .ok (.iconst 5, 1) := by decide +kernel
theorem d_MO_work_154 : decode b_MO_work 154 = .ok (.if_icmp .ne 7, 3) := by decide +kernel
theorem d_MO_work_157 : decode b_MO_work 157 = .ok (.iconst 5, 1) := by decide +kernel
theorem d_MO_work_158 : decode b_MO_work 158 = .ok (.goto 5, 3) := by decide +kernel
theorem d_MO_work_161 : decode b_MO_work 161 = .ok (.bipush 6, 2) := by decide +kernel
theorem d_MO_work_163 : decode b_MO_work 163 = .ok (.putfield 96, 3) := by decide +kernel
theorem d_MO_work_166 : decode b_MO_work 166 = .ok (.aload_n 0, 1) := by decide +kernel
theorem d_MO_work_167 : decode b_MO_work 167 = .ok (.getfield 136, 3) := by decide +kernel
theorem d_MO_work_170 : decode b_MO_work 170 = .ok (.ifCond .ne 10, 3) := by decide +kernel
theorem d_MO_work_173 : decode b_MO_work 173 = .ok (.aload_n 0, 1) := by decide +kernel
theorem d_MO_work_174 : decode b_MO_work 174 = .ok (.getfield 158, 3) := by decide +kernel
theorem d_MO_work_177 : decode b_MO_work 177 = .ok (.goto 4, 3) := by decide +kernel
theorem d_MO_work_180 : decode b_MO_work 180 = .ok (.dconst 0, 1) := by decide +kernel
theorem d_MO_work_181 : decode b_MO_work 181 = .ok (.dreturn, 1) := by decide +kernel
theorem d_MO_variable_0 : decode b_MO_variable 0 = .ok (.aload_n 0, 1) := by decide +kernel
theorem d_MO_variable_1 : decode b_MO_variable 1 = .ok (.iload_n 1, 1) := by decide +kernel
theorem d_MO_variable_2 : decode b_MO_variable 2 = .ok (.iconst 0, 1) := by decide +kernel
theorem d_MO_variable_3 : decode b_MO_variable 3 = .ok (.bipush 7, 2) := by decide +kernel
theorem d_MO_variable_5 : decode b_MO_variable 5 = .ok (.invokestatic 108, 3) := by decide +kernel
theorem d_MO_variable_8 : decode b_MO_variable 8 = .ok (.ifCond .eq 7, 3) := by decide +kernel
theorem d_MO_variable_11 : decode b_MO_variable 11 = .ok (.iconst 0, 1) := by decide +kernel
theorem d_MO_variable_12 : decode b_MO_variable 12 = .ok (.goto 4, 3) := by decide +kernel
theorem d_MO_variable_15 : decode b_MO_variable 15 = .ok (.iconst 1, 1) := by decide +kernel
theorem d_MO_variable_16 : decode b_MO_variable 16 = .ok (.putfield 96, 3) := by decide +kernel
theorem d_MO_variable_19 : decode b_MO_variable 19 = .ok (.aload_n 0, 1) := by decide +kernel
theorem d_MO_variable_20 : decode b_MO_variable 20 = .ok (.getfield 96, 3) := by decide +kernel
theorem d_MO_variable_23 : decode b_MO_variable 23 = .ok (.ifCond .le 7, 3) := by decide +kernel
theorem d_MO_variable_26 : decode b_MO_variable 26 = .ok (.dconst 0, 1) := by decide +kernel
theorem d_MO_variable_27 : decode b_MO_variable 27 = .ok (.goto 9, 3) := by decide +kernel
theorem d_MO_variable_30 : decode b_MO_variable 30 = .ok (.aload_n 0, 1) := by decide +kernel
theorem d_MO_variable_31 : decode b_MO_variable 31 = .ok (.getfield 31, 3) := by decide +kernel
theorem d_MO_variable_34 : decode b_MO_variable 34 = .ok (.iload_n 1, 1) := by decide +kernel
theorem d_MO_variable_35 : decode b_MO_variable 35 = .ok (.daload, 1) := by decide +kernel
theorem d_MO_variable_36 : decode b_MO_variable 36 = .ok (.dreturn, 1) := by decide +kernel
theorem d_MO_element_0 : decode b_MO_element 0 = .ok (.aload_n 0, 1) := by decide +kernel
theorem d_MO_element_1 : decode b_MO_element 1 = .ok (.iload_n 1, 1) := by decide +kernel
theorem d_MO_element_2 : decode b_MO_element 2 = .ok (.i2d, 1) := by decide +kernel
theorem d_MO_element_3 : decode b_MO_element 3 = .ok (.iload_n 2, 1) := by decide +kernel
theorem d_MO_element_4 : decode b_MO_element 4 = .ok (.i2d, 1) := by decide +kernel
theorem d_MO_element_5 : decode b_MO_element 5 = .ok (.invokevirtual 174, 3) := by decide +kernel
theorem d_MO_element_8 : decode b_MO_element 8 = .ok (.istore_n 3, 1) := by decide +kernel
theorem d_MO_element_9 : decode b_MO_element 9 = .ok (.aload_n 0, 1) := by decide +kernel
theorem d_MO_element_10 : decode b_MO_element 10 = .ok (.iload_n 3, 1) := by decide +kernel
theorem d_MO_element_11 : decode b_MO_element 11 = .ok (.ifCond .ge 7, 3) := by decide +kernel
theorem d_MO_element_14 : decode b_MO_element 14 = .ok (.iconst 1, 1) := by decide +kernel
theorem d_MO_element_15 : decode b_MO_element 15 = .ok (.goto 4, 3) := by decide +kernel
theorem d_MO_element_18 : decode b_MO_element 18 = .ok (.iconst 0, 1) := by decide +kernel
theorem d_MO_element_19 : decode b_MO_element 19 = .ok (.putfield 96, 3) := by decide +kernel
theorem d_MO_element_22 : decode b_MO_element 22 = .ok (.aload_n 0, 1) := by decide +kernel
theorem d_MO_element_23 : decode b_MO_element 23 = .ok (.getfield 96, 3) := by decide +kernel
theorem d_MO_element_26 : decode b_MO_element 26 = .ok (.ifCond .le 7, 3) := by decide +kernel
theorem d_MO_element_29 : decode b_MO_element 29 = .ok (.dconst 0, 1) := by decide +kernel
theorem d_MO_element_30 : decode b_MO_element 30 = .ok (.goto 9, 3) := by decide +kernel
theorem d_MO_element_33 : decode b_MO_element 33 = .ok (.aload_n 0, 1) := by decide +kernel
theorem d_MO_element_34 : decode b_MO_element 34 = .ok (.getfield 35, 3) := by decide +kernel
theorem d_MO_element_37 : decode b_MO_element 37 = .ok (.iload_n 3, 1) := by decide +kernel
theorem d_MO_element_38 : decode b_MO_element 38 = .ok (.daload, 1) := by decide +kernel
theorem d_MO_element_39 : decode b_MO_element 39 = .ok (.dreturn, 1) := by decide +kernel
theorem d_MO_node_0 : decode b_MO_node 0 = .ok (.iload_n 2, 1) := by decide +kernel
theorem d_MO_node_1 : decode b_MO_node 1 = .ok (.iconst 0, 1) := by decide +kernel
theorem d_MO_node_2 : decode b_MO_node 2 = .ok (.iconst 3, 1) := by decide +kernel
theorem d_MO_node_3 : decode b_MO_node 3 = .ok (.invokestatic 108, 3) := by decide +kernel
theorem d_MO_node_6 : decode b_MO_node 6 = .ok (.ifCond .ne 9, 3) := by decide +kernel
theorem d_MO_node_9 : decode b_MO_node 9 = .ok (.aload_n 0, 1) := by decide +kernel
theorem d_MO_node_10 : decode b_MO_node 10 = .ok (.iconst 1, 1) := by decide +kernel
theorem d_MO_node_11 : decode b_MO_node 11 = .ok (.invokevirtual 120, 3) := by decide +kernel
theorem d_MO_node_14 : decode b_MO_node 14 = .ok (.ireturn, 1) := by decide +kernel
theorem d_MO_node_15 : decode b_MO_node 15 = .ok (.aload_n 0, 1) := by decide +kernel
theorem d_MO_node_16 : decode b_MO_node 16 = .ok (.iload_n 1, 1) := by decide +kernel
theorem d_MO_node_17 : decode b_MO_node 17 = .ok (.invokevirtual 112, 3) := by decide +kernel
theorem d_MO_node_20 : decode b_MO_node 20 = .ok (.istore_n 3, 1) := by decide +kernel
theorem d_MO_node_21 : decode b_MO_node 21 = .ok (.iload_n 3, 1) := by decide +kernel
theorem d_MO_node_22 : decode b_MO_node 22 = .ok (.ifCond .ne 9, 3) := by decide +kernel
theorem d_MO_node_25 : decode b_MO_node 25 = .ok (.aload_n 0, 1) := by decide +kernel
theorem d_MO_node_26 : decode b_MO_node 26 = .ok (.iconst 2, 1) := by decide +kernel
theorem d_MO_node_27 : decode b_MO_node 27 = .ok (.invokevirtual 120, 3) := by decide +kernel
theorem d_MO_node_30 : decode b_MO_node 30 = .ok (.ireturn, 1) := by decide +kernel
theorem d_MO_node_31 : decode b_MO_node 31 = .ok (.aload_n 0, 1) := by decide +kernel
theorem d_MO_node_32 : decode b_MO_node 32 = .ok (.iconst 0, 1) := by decide +kernel
theorem d_MO_node_33 : decode b_MO_node 33 = .ok (.putfield 96, 3) := by decide +kernel
theorem d_MO_node_36 : decode b_MO_node 36 = .ok (.iload_n 2, 1) := by decide +kernel
theorem d_MO_node_37 : decode b_MO_node 37 = .ok (.ifCond .ne 12, 3) := by decide +kernel
theorem d_MO_node_40 : decode b_MO_node 40 = .ok (.aload_n 0, 1) := by decide +kernel
theorem d_MO_node_41 : decode b_MO_node 41 = .ok (.getfield 7, 3) := by decide +kernel
theorem d_MO_node_44 : decode b_MO_node 44 = .ok (.iload_n 1, 1) := by decide +kernel
theorem d_MO_node_45 : decode b_MO_node 45 = .ok (.iaload, 1) := by decide +kernel
theorem d_MO_node_46 : decode b_MO_node 46 = .ok (.goto 37, 3) := by decide +kernel
theorem d_MO_node_49 : decode b_MO_node 49 = .ok (.iload_n 2, 1) := by decide +kernel
theorem d_MO_node_50 : decode b_MO_node 50 = .ok (.iconst 1, 1) := by decide +kernel
theorem d_MO_node_51 : decode b_MO_node 51 = .ok (.if_icmp .ne 12, 3) := by decide +kernel
theorem d_MO_node_54 : decode b_MO_node 54 = .ok (.aload_n 0, 1) := by decide +kernel
theorem d_MO_node_55 : decode b_MO_node 55 = .ok (.getfield 13, 3) := by decide +kernel
theorem d_MO_node_58 : decode b_MO_node 58 = .ok (.iload_n 1, 1) := by decide +kernel
theorem d_MO_node_59 : decode b_MO_node 59 = .ok (.iaload, 1) := by decide +kernel
theorem d_MO_node_60 : decode b_MO_node 60 = .ok (.goto 23, 3) := by decide +kernel
theorem d_MO_node_63 : decode b_MO_node 63 = .ok (.iload_n 2, 1) := by decide +kernel
theorem d_MO_node_64 : decode b_MO_node 64 = .ok (.iconst 2, 1) := by decide +kernel
theorem d_MO_node_65 : decode b_MO_node 65 = .ok (.if_icmp .ne 12, 3) := by decide +kernel
theorem d_MO_node_68 : decode b_MO_node 68 = .ok (.aload_n 0, 1) := by decide +kernel
theorem d_MO_node_69 : decode b_MO_node 69 = .ok (.getfield 16, 3) := by decide +kernel
theorem d_MO_node_72 : decode b_MO_node 72 = .ok (.iload_n 1, 1) := by decide +kernel
theorem d_MO_node_73 : decode b_MO_node 73 = .ok (.iaload, 1) := by decide +kernel
theorem d_MO_node_74 : decode b_MO_node 74 = .ok (.goto 9, 3) := by decide +kernel
theorem d_MO_node_77 : decode b_MO_node 77 = .ok (.aload_n 0, 1) := by decide +kernel
theorem d_MO_node_78 : decode b_MO_node 78 = .ok (.getfield 19, 3) := by decide +kernel
theorem d_MO_node_81 : decode b_MO_node 81 = .ok (.iload_n 1, 1) := by decide +kernel
theorem d_MO_node_82 : decode b_MO_node 82 = .ok (.iaload, 1) := by decide +kernel
theorem d_MO_node_83 : decode b_MO_node 83 = .ok (.ireturn, 1) := by decide +kernel
theorem d_MO_clear_0 : decode b_MO_clear 0 = .ok (.aload_n 0, 1) := by decide +kernel
theorem d_MO_clear_1 : decode b_MO_clear 1 = .ok (.iconst 0, 1) := by decide +kernel
theorem d_MO_clear_2 : decode b_MO_clear 2 = .ok (.putfield 96, 3) := by decide +kernel
theorem d_MO_clear_5 : decode b_MO_clear 5 = .ok (.aload_n 0, 1) := by decide +kernel
theorem d_MO_clear_6 : decode b_MO_clear 6 = .ok (.getfield 105, 3) := by decide +kernel
theorem d_MO_clear_9 : decode b_MO_clear 9 = .ok (.istore_n 1, 1) := by decide +kernel
theorem d_MO_clear_10 : decode b_MO_clear 10 = .ok (.aload_n 0, 1) := by decide +kernel
theorem d_MO_clear_11 : decode b_MO_clear 11 = .ok (.iconst 0, 1) := by decide +kernel
theorem d_MO_clear_12 : decode b_MO_clear 12 = .ok (.putfield 105, 3) := by decide +kernel
theorem d_MO_clear_15 : decode b_MO_clear 15 = .ok (.iconst 0, 1) := by decide +kernel
theorem d_MO_clear_16 : decode b_MO_clear 16 = .ok (.istore_n 2, 1) := by decide +kernel
theorem d_MO_clear_17 : decode b_MO_clear 17 = .ok (.iload_n 2, 1) := by decide +kernel
theorem d_MO_clear_18 : decode b_MO_clear 18 = .ok (.iconst 4, 1) := by decide +kernel
theorem d_MO_clear_19 : decode b_MO_clear 19 = .ok (.if_icmp .ge 16, 3) := by decide +kernel
theorem d_MO_clear_22 : decode b_MO_clear 22 = .ok (.aload_n 0, 1) := by decide +kernel
theorem d_MO_clear_23 : decode b_MO_clear 23 = .ok (.getfield 22, 3) := by decide +kernel
theorem d_MO_clear_26 : decode b_MO_clear 26 = .ok (.iload_n 2, 1) := by decide +kernel
theorem d_MO_clear_27 : decode b_MO_clear 27 = .ok (.iconst (-1), 1) := by decide +kernel
theorem d_MO_clear_28 : decode b_MO_clear 28 = .ok (.iastore, 1) := by decide +kernel
theorem d_MO_clear_29 : decode b_MO_clear 29 = .ok (.iinc 2 1, 3) := by decide +kernel
theorem d_MO_clear_32 : decode b_MO_clear 32 = .ok (.goto (-15), 3) := by decide +kernel
theorem d_MO_clear_35 : decode b_MO_clear 35 = .ok (.iload_n 1, 1) := by decide +kernel
theorem d_MO_clear_36 : decode b_MO_clear 36 = .ok (.ireturn, 1) := by decide +kernel
theorem d_MO_count_0 : decode b_MO_count 0 = .ok (.iload_n 1, 1) := by decide +kernel
theorem d_MO_count_1 : decode b_MO_count 1 = .ok (.iconst 0, 1) := by decide +kernel
theorem d_MO_count_2 : decode b_MO_count 2 = .ok (.bipush 6, 2) := by decide +kernel
theorem d_MO_count_4 : decode b_MO_count 4 = .ok (.invokestatic 108, 3) := by decide +kernel
theorem d_MO_count_7 : decode b_MO_count 7 = .ok (.ifCond .ne 9, 3) := by decide +kernel
theorem d_MO_count_10 : decode b_MO_count 10 = .ok (.aload_n 0, 1) := by decide +kernel
theorem d_MO_count_11 : decode b_MO_count 11 = .ok (.iconst 1, 1) := by decide +kernel
theorem d_MO_count_12 : decode b_MO_count 12 = .ok (.invokevirtual 120, 3) := by decide +kernel
theorem d_MO_count_15 : decode b_MO_count 15 = .ok (.ireturn, 1) := by decide +kernel
theorem d_MO_count_16 : decode b_MO_count 16 = .ok (.aload_n 0, 1) := by decide +kernel
theorem d_MO_count_17 : decode b_MO_count 17 = .ok (.iconst 0, 1) := by decide +kernel
theorem d_MO_count_18 : decode b_MO_count 18 = .ok (.putfield 96, 3) := by decide +kernel
theorem d_MO_count_21 : decode b_MO_count 21 = .ok (.iload_n 1, 1) := by decide +kernel
theorem d_MO_count_22 : decode b_MO_count 22 = .ok (.tableswitch 87 0 5 #[38, 43, 67, 72, 77, 82], 38) := by decide +kernel
theorem d_MO_count_60 : decode b_MO_count 60 = .ok (.aload_n 0, 1) := by decide +kernel
theorem d_MO_count_61 : decode b_MO_count 61 = .ok (.getfield 105, 3) := by decide +kernel
theorem d_MO_count_64 : decode b_MO_count 64 = .ok (.ireturn, 1) := by decide +kernel
theorem d_MO_count_65 : decode b_MO_count 65 = .ok (.aload_n 0, 1) := by decide +kernel
theorem d_MO_count_66 : decode b_MO_count 66 = .ok (.getfield 42, 3) := by decide +kernel
theorem d_MO_count_69 : decode b_MO_count 69 = .ok (.aload_n 0, 1) := by decide +kernel
theorem d_MO_count_70 : decode b_MO_count 70 = .ok (.getfield 38, 3) := by decide +kernel
theorem d_MO_count_73 : decode b_MO_count 73 = .ok (.isub, 1) := by decide +kernel
theorem d_MO_count_74 : decode b_MO_count 74 = .ok (.iconst 1, 1) := by decide +kernel
theorem d_MO_count_75 : decode b_MO_count 75 = .ok (.iadd, 1) := by decide +kernel
theorem d_MO_count_76 : decode b_MO_count 76 = .ok (.aload_n 0, 1) := by decide +kernel
theorem d_MO_count_77 : decode b_MO_count 77 = .ok (.getfield 48, 3) := by decide +kernel
theorem d_MO_count_80 : decode b_MO_count 80 = .ok (.aload_n 0, 1) := by decide +kernel
theorem d_MO_count_81 : decode b_MO_count 81 = .ok (.getfield 45, 3) := by decide +kernel
theorem d_MO_count_84 : decode b_MO_count 84 = .ok (.isub, 1) := by decide +kernel
theorem d_MO_count_85 : decode b_MO_count 85 = .ok (.iconst 1, 1) := by decide +kernel
theorem d_MO_count_86 : decode b_MO_count 86 = .ok (.iadd, 1) := by decide +kernel
theorem d_MO_count_87 : decode b_MO_count 87 = .ok (.imul, 1) := by decide +kernel
theorem d_MO_count_88 : decode b_MO_count 88 = .ok (.ireturn, 1) := by decide +kernel
theorem d_MO_count_89 : decode b_MO_count 89 = .ok (.aload_n 0, 1) := by decide +kernel
theorem d_MO_count_90 : decode b_MO_count 90 = .ok (.getfield 139, 3) := by decide +kernel
theorem d_MO_count_93 : decode b_MO_count 93 = .ok (.ireturn, 1) := by decide +kernel
theorem d_MO_count_94 : decode b_MO_count 94 = .ok (.aload_n 0, 1) := by decide +kernel
theorem d_MO_count_95 : decode b_MO_count 95 = .ok (.getfield 136, 3) := by decide +kernel
theorem d_MO_count_98 : decode b_MO_count 98 = .ok (.ireturn, 1) := by decide +kernel
theorem d_MO_count_99 : decode b_MO_count 99 = .ok (.aload_n 0, 1) := by decide +kernel
theorem d_MO_count_100 : decode b_MO_count 100 = .ok (.getfield 187, 3) := by decide +kernel
theorem d_MO_count_103 : decode b_MO_count 103 = .ok (.ireturn, 1) := by decide +kernel
theorem d_MO_count_104 : decode b_MO_count 104 = .ok (.aload_n 0, 1) := by decide +kernel
theorem d_MO_count_105 : decode b_MO_count 105 = .ok (.getfield 155, 3) := by decide +kernel
theorem d_MO_count_108 : decode b_MO_count 108 = .ok (.ireturn, 1) := by decide +kernel
theorem d_MO_count_109 : decode b_MO_count 109 = .ok (.aload_n 0, 1) := by decide +kernel
theorem d_MO_count_110 : decode b_MO_count 110 = .ok (.getfield 199, 3) := by decide +kernel
theorem d_MO_count_113 : decode b_MO_count 113 = .ok (.ireturn, 1) := by decide +kernel
theorem d_LW_make_0 : decode b_LW_make 0 = .ok (.aload 5, 2) := by decide +kernel
theorem d_LW_make_2 : decode b_LW_make 2 = .ok (.iconst 0, 1) := by decide +kernel
theorem d_LW_make_3 : decode b_LW_make 3 = .ok (.aload_n 0, 1) := by decide +kernel
theorem d_LW_make_4 : decode b_LW_make 4 = .ok (.iload_n 1, 1) := by decide +kernel
theorem d_LW_make_5 : decode b_LW_make 5 = .ok (.iload_n 2, 1) := by decide +kernel
theorem d_LW_make_6 : decode b_LW_make 6 = .ok (.iload_n 3, 1) := by decide +kernel
theorem d_LW_make_7 : decode b_LW_make 7 = .ok (.iload 4, 2) := by decide +kernel
theorem d_LW_make_9 : decode b_LW_make 9 = .ok (.invokevirtual 7, 3) := by decide +kernel
theorem d_LW_make_12 : decode b_LW_make 12 = .ok (.i2l, 1) := by decide +kernel
theorem d_LW_make_13 : decode b_LW_make 13 = .ok (.lastore, 1) := by decide +kernel
theorem d_LW_make_14 : decode b_LW_make 14 = .ok (.goto 11, 3) := by decide +kernel
theorem d_LW_make_17 : decode b_LW_make 17 = .ok (.astore 6, 2) := by decide +kernel
theorem d_LW_make_19 : decode b_LW_make 19 = .ok (.iconst 1, 1) := by decide +kernel
theorem d_LW_make_20 : decode b_LW_make 20 = .ok (.ireturn, 1) := by decide +kernel
theorem d_LW_make_21 : decode b_LW_make 21 = .ok (.astore 6, 2) := by decide +kernel
theorem d_LW_make_23 : decode b_LW_make 23 = .ok (.iconst 2, 1) := by decide +kernel
theorem d_LW_make_24 : decode b_LW_make 24 = .ok (.ireturn, 1) := by decide +kernel
theorem d_LW_make_25 : decode b_LW_make 25 = .ok (.iconst 0, 1) := by decide +kernel
theorem d_LW_make_26 : decode b_LW_make 26 = .ok (.ireturn, 1) := by decide +kernel
theorem d_LW_procedure_0 : decode b_LW_procedure 0 = .ok (.aload_n 0, 1) := by decide +kernel
theorem d_LW_procedure_1 : decode b_LW_procedure 1 = .ok (.iload_n 1, 1) := by decide +kernel
theorem d_LW_procedure_2 : decode b_LW_procedure 2 = .ok (.iload_n 2, 1) := by decide +kernel
theorem d_LW_procedure_3 : decode b_LW_procedure 3 = .ok (.iload_n 3, 1) := by decide +kernel
theorem d_LW_procedure_4 : decode b_LW_procedure 4 = .ok (.iload 4, 2) := by decide +kernel
theorem d_LW_procedure_6 : decode b_LW_procedure 6 = .ok (.invokevirtual 17, 3) := by decide +kernel
theorem d_LW_procedure_9 : decode b_LW_procedure 9 = .ok (.goto 7, 3) := by decide +kernel
theorem d_LW_procedure_12 : decode b_LW_procedure 12 = .ok (.astore 5, 2) := by decide +kernel
theorem d_LW_procedure_14 : decode b_LW_procedure 14 = .ok (.iconst 1, 1) := by decide +kernel
theorem d_LW_procedure_15 : decode b_LW_procedure 15 = .ok (.ireturn, 1) := by decide +kernel
theorem d_LW_procedure_16 : decode b_LW_procedure 16 = .ok (.iconst 0, 1) := by decide +kernel
theorem d_LW_procedure_17 : decode b_LW_procedure 17 = .ok (.ireturn, 1) := by decide +kernel
theorem d_LW_bounds_0 : decode b_LW_bounds 0 = .ok (.aload 5, 2) := by decide +kernel
theorem d_LW_bounds_2 : decode b_LW_bounds 2 = .ok (.iconst 0, 1) := by decide +kernel
theorem d_LW_bounds_3 : decode b_LW_bounds 3 = .ok (.aload_n 0, 1) := by decide +kernel
theorem d_LW_bounds_4 : decode b_LW_bounds 4 = .ok (.iload_n 1, 1) := by decide +kernel
theorem d_LW_bounds_5 : decode b_LW_bounds 5 = .ok (.iload_n 2, 1) := by decide +kernel
theorem d_LW_bounds_6 : decode b_LW_bounds 6 = .ok (.iload_n 3, 1) := by decide +kernel
theorem d_LW_bounds_7 : decode b_LW_bounds 7 = .ok (.iload 4, 2) := by decide +kernel
theorem d_LW_bounds_9 : decode b_LW_bounds 9 = .ok (.invokevirtual 21, 3) := by decide +kernel
theorem d_LW_bounds_12 : decode b_LW_bounds 12 = .ok (.i2l, 1) := by decide +kernel
theorem d_LW_bounds_13 : decode b_LW_bounds 13 = .ok (.lastore, 1) := by decide +kernel
theorem d_LW_bounds_14 : decode b_LW_bounds 14 = .ok (.goto 7, 3) := by decide +kernel
theorem d_LW_bounds_17 : decode b_LW_bounds 17 = .ok (.astore 6, 2) := by decide +kernel
theorem d_LW_bounds_19 : decode b_LW_bounds 19 = .ok (.iconst 1, 1) := by decide +kernel
theorem d_LW_bounds_20 : decode b_LW_bounds 20 = .ok (.ireturn, 1) := by decide +kernel
theorem d_LW_bounds_21 : decode b_LW_bounds 21 = .ok (.iconst 0, 1) := by decide +kernel
theorem d_LW_bounds_22 : decode b_LW_bounds 22 = .ok (.ireturn, 1) := by decide +kernel
theorem d_LW_put_0 : decode b_LW_put 0 = .ok (.aload 4, 2) := by decide +kernel
theorem d_LW_put_2 : decode b_LW_put 2 = .ok (.iconst 0, 1) := by decide +kernel
theorem d_LW_put_3 : decode b_LW_put 3 = .ok (.aload_n 0, 1) := by decide +kernel
theorem d_LW_put_4 : decode b_LW_put 4 = .ok (.iload_n 1, 1) := by decide +kernel
theorem d_LW_put_5 : decode b_LW_put 5 = .ok (.dload_n 2, 1) := by decide +kernel
theorem d_LW_put_6 : decode b_LW_put 6 = .ok (.invokevirtual 24, 3) := by decide +kernel
theorem d_LW_put_9 : decode b_LW_put 9 = .ok (.dastore, 1) := by decide +kernel
theorem d_LW_put_10 : decode b_LW_put 10 = .ok (.goto 7, 3) := by decide +kernel
theorem d_LW_put_13 : decode b_LW_put 13 = .ok (.astore 5, 2) := by decide +kernel
theorem d_LW_put_15 : decode b_LW_put 15 = .ok (.iconst 1, 1) := by decide +kernel
theorem d_LW_put_16 : decode b_LW_put 16 = .ok (.ireturn, 1) := by decide +kernel
theorem d_LW_put_17 : decode b_LW_put 17 = .ok (.iconst 0, 1) := by decide +kernel
theorem d_LW_put_18 : decode b_LW_put 18 = .ok (.ireturn, 1) := by decide +kernel
theorem d_LW_work_0 : decode b_LW_work 0 = .ok (.aload_n 2, 1) := by decide +kernel
theorem d_LW_work_1 : decode b_LW_work 1 = .ok (.iconst 0, 1) := by decide +kernel
theorem d_LW_work_2 : decode b_LW_work 2 = .ok (.aload_n 0, 1) := by decide +kernel
theorem d_LW_work_3 : decode b_LW_work 3 = .ok (.iload_n 1, 1) := by decide +kernel
theorem d_LW_work_4 : decode b_LW_work 4 = .ok (.invokevirtual 28, 3) := by decide +kernel
theorem d_LW_work_7 : decode b_LW_work 7 = .ok (.dastore, 1) := by decide +kernel
theorem d_LW_work_8 : decode b_LW_work 8 = .ok (.goto 22, 3) := by decide +kernel
theorem d_LW_work_11 : decode b_LW_work 11 = .ok (.astore_n 3, 1) := by decide +kernel
theorem d_LW_work_12 : decode b_LW_work 12 = .ok (.iconst 1, 1) := by decide +kernel
theorem d_LW_work_13 : decode b_LW_work 13 = .ok (.ireturn, 1) := by decide +kernel
theorem d_LW_work_14 : decode b_LW_work 14 = .ok (.astore_n 3, 1) := by decide +kernel
theorem d_LW_work_15 : decode b_LW_work 15 = .ok (.iconst 2, 1) := by decide +kernel
theorem d_LW_work_16 : decode b_LW_work 16 = .ok (.ireturn, 1) := by decide +kernel
theorem d_LW_work_17 : decode b_LW_work 17 = .ok (.astore_n 3, 1) := by decide +kernel
theorem d_LW_work_18 : decode b_LW_work 18 = .ok (.iconst 3, 1) := by decide +kernel
theorem d_LW_work_19 : decode b_LW_work 19 = .ok (.ireturn, 1) := by decide +kernel
theorem d_LW_work_20 : decode b_LW_work 20 = .ok (.astore_n 3, 1) := by decide +kernel
theorem d_LW_work_21 : decode b_LW_work 21 = .ok (.iconst 4, 1) := by decide +kernel
theorem d_LW_work_22 : decode b_LW_work 22 = .ok (.ireturn, 1) := by decide +kernel
theorem d_LW_work_23 : decode b_LW_work 23 = .ok (.astore_n 3, 1) := by decide +kernel
theorem d_LW_work_24 : decode b_LW_work 24 = .ok (.iconst 5, 1) := by decide +kernel
theorem d_LW_work_25 : decode b_LW_work 25 = .ok (.ireturn, 1) := by decide +kernel
theorem d_LW_work_26 : decode b_LW_work 26 = .ok (.astore_n 3, 1) := by decide +kernel
theorem d_LW_work_27 : decode b_LW_work 27 = .ok (.bipush 6, 2) := by decide +kernel
theorem d_LW_work_29 : decode b_LW_work 29 = .ok (.ireturn, 1) := by decide +kernel
theorem d_LW_work_30 : decode b_LW_work 30 = .ok (.iconst 0, 1) := by decide +kernel
theorem d_LW_work_31 : decode b_LW_work 31 = .ok (.ireturn, 1) := by decide +kernel
theorem d_LW_variable_0 : decode b_LW_variable 0 = .ok (.aload_n 2, 1) := by decide +kernel
theorem d_LW_variable_1 : decode b_LW_variable 1 = .ok (.iconst 0, 1) := by decide +kernel
theorem d_LW_variable_2 : decode b_LW_variable 2 = .ok (.aload_n 0, 1) := by decide +kernel
theorem d_LW_variable_3 : decode b_LW_variable 3 = .ok (.iload_n 1, 1) := by decide +kernel
theorem d_LW_variable_4 : decode b_LW_variable 4 = .ok (.invokevirtual 40, 3) := by decide +kernel
theorem d_LW_variable_7 : decode b_LW_variable 7 = .ok (.dastore, 1) := by decide +kernel
theorem d_LW_variable_8 : decode b_LW_variable 8 = .ok (.goto 6, 3) := by decide +kernel
theorem d_LW_variable_11 : decode b_LW_variable 11 = .ok (.astore_n 3, 1) := by decide +kernel
theorem d_LW_variable_12 : decode b_LW_variable 12 = .ok (.iconst 1, 1) := by decide +kernel
theorem d_LW_variable_13 : decode b_LW_variable 13 = .ok (.ireturn, 1) := by decide +kernel
theorem d_LW_variable_14 : decode b_LW_variable 14 = .ok (.iconst 0, 1) := by decide +kernel
theorem d_LW_variable_15 : decode b_LW_variable 15 = .ok (.ireturn, 1) := by decide +kernel
theorem d_LW_element_0 : decode b_LW_element 0 = .ok (.aload_n 3, 1) := by decide +kernel
theorem d_LW_element_1 : decode b_LW_element 1 = .ok (.iconst 0, 1) := by decide +kernel
theorem d_LW_element_2 : decode b_LW_element 2 = .ok (.aload_n 0, 1) := by decide +kernel
theorem d_LW_element_3 : decode b_LW_element 3 = .ok (.iload_n 1, 1) := by decide +kernel
theorem d_LW_element_4 : decode b_LW_element 4 = .ok (.iload_n 2, 1) := by decide +kernel
theorem d_LW_element_5 : decode b_LW_element 5 = .ok (.invokevirtual 43, 3) := by decide +kernel
theorem d_LW_element_8 : decode b_LW_element 8 = .ok (.dastore, 1) := by decide +kernel
theorem d_LW_element_9 : decode b_LW_element 9 = .ok (.goto 7, 3) := by decide +kernel
theorem d_LW_element_12 : decode b_LW_element 12 = .ok (.astore 4, 2) := by decide +kernel
theorem d_LW_element_14 : decode b_LW_element 14 = .ok (.iconst 1, 1) := by decide +kernel
theorem d_LW_element_15 : decode b_LW_element 15 = .ok (.ireturn, 1) := by decide +kernel
theorem d_LW_element_16 : decode b_LW_element 16 = .ok (.iconst 0, 1) := by decide +kernel
theorem d_LW_element_17 : decode b_LW_element 17 = .ok (.ireturn, 1) := by decide +kernel
theorem d_LW_node_0 : decode b_LW_node 0 = .ok (.aload_n 3, 1) := by decide +kernel
theorem d_LW_node_1 : decode b_LW_node 1 = .ok (.iconst 0, 1) := by decide +kernel
theorem d_LW_node_2 : decode b_LW_node 2 = .ok (.aload_n 0, 1) := by decide +kernel
theorem d_LW_node_3 : decode b_LW_node 3 = .ok (.iload_n 1, 1) := by decide +kernel
theorem d_LW_node_4 : decode b_LW_node 4 = .ok (.iload_n 2, 1) := by decide +kernel
theorem d_LW_node_5 : decode b_LW_node 5 = .ok (.invokevirtual 47, 3) := by decide +kernel
theorem d_LW_node_8 : decode b_LW_node 8 = .ok (.i2l, 1) := by decide +kernel
theorem d_LW_node_9 : decode b_LW_node 9 = .ok (.lastore, 1) := by decide +kernel
theorem d_LW_node_10 : decode b_LW_node 10 = .ok (.goto 11, 3) := by decide +kernel
theorem d_LW_node_13 : decode b_LW_node 13 = .ok (.astore 4, 2) := by decide +kernel
theorem d_LW_node_15 : decode b_LW_node 15 = .ok (.iconst 1, 1) := by decide +kernel
theorem d_LW_node_16 : decode b_LW_node 16 = .ok (.ireturn, 1) := by decide +kernel
theorem d_LW_node_17 : decode b_LW_node 17 = .ok (.astore 4, 2) := by decide +kernel
theorem d_LW_node_19 : decode b_LW_node 19 = .ok (.iconst 2, 1) := by decide +kernel
theorem d_LW_node_20 : decode b_LW_node 20 = .ok (.ireturn, 1) := by decide +kernel
theorem d_LW_node_21 : decode b_LW_node 21 = .ok (.iconst 0, 1) := by decide +kernel
theorem d_LW_node_22 : decode b_LW_node 22 = .ok (.ireturn, 1) := by decide +kernel
theorem d_LW_count_0 : decode b_LW_count 0 = .ok (.aload_n 2, 1) := by decide +kernel
theorem d_LW_count_1 : decode b_LW_count 1 = .ok (.iconst 0, 1) := by decide +kernel
theorem d_LW_count_2 : decode b_LW_count 2 = .ok (.aload_n 0, 1) := by decide +kernel
theorem d_LW_count_3 : decode b_LW_count 3 = .ok (.iload_n 1, 1) := by decide +kernel
theorem d_LW_count_4 : decode b_LW_count 4 = .ok (.invokevirtual 51, 3) := by decide +kernel
theorem d_LW_count_7 : decode b_LW_count 7 = .ok (.i2l, 1) := by decide +kernel
theorem d_LW_count_8 : decode b_LW_count 8 = .ok (.lastore, 1) := by decide +kernel
theorem d_LW_count_9 : decode b_LW_count 9 = .ok (.goto 6, 3) := by decide +kernel
theorem d_LW_count_12 : decode b_LW_count 12 = .ok (.astore_n 3, 1) := by decide +kernel
theorem d_LW_count_13 : decode b_LW_count 13 = .ok (.iconst 1, 1) := by decide +kernel
theorem d_LW_count_14 : decode b_LW_count 14 = .ok (.ireturn, 1) := by decide +kernel
theorem d_LW_count_15 : decode b_LW_count 15 = .ok (.iconst 0, 1) := by decide +kernel
theorem d_LW_count_16 : decode b_LW_count 16 = .ok (.ireturn, 1) := by decide +kernel
theorem d_LW_law_0 : decode b_LW_law 0 = .ok (.new 8, 3) := by decide +kernel
theorem d_LW_law_3 : decode b_LW_law 3 = .ok (.dup, 1) := by decide +kernel
theorem d_LW_law_4 : decode b_LW_law 4 = .ok (.invokespecial 55, 3) := by decide +kernel
theorem d_LW_law_7 : decode b_LW_law 7 = .ok (.astore_n 1, 1) := by decide +kernel
theorem d_LW_law_8 : decode b_LW_law 8 = .ok (.new 56, 3) := by decide +kernel
theorem d_LW_law_11 : decode b_LW_law 11 = .ok (.dup, 1) := by decide +kernel
theorem d_LW_law_12 : decode b_LW_law 12 = .ok (.invokespecial 58, 3) := by decide +kernel
theorem d_LW_law_15 : decode b_LW_law 15 = .ok (.astore_n 2, 1) := by decide +kernel
theorem d_LW_law_16 : decode b_LW_law 16 = .ok (.iconst 1, 1) := by decide +kernel
theorem d_LW_law_17 : decode b_LW_law 17 = .ok (.newarray .long, 2) := by decide +kernel
theorem d_LW_law_19 : decode b_LW_law 19 = .ok (.astore_n 3, 1) := by decide +kernel
theorem d_LW_law_20 : decode b_LW_law 20 = .ok (.iconst 1, 1) := by decide +kernel
theorem d_LW_law_21 : decode b_LW_law 21 = .ok (.newarray .double, 2) := by decide +kernel
theorem d_LW_law_23 : decode b_LW_law 23 = .ok (.astore 4, 2) := by decide +kernel
theorem d_LW_law_25 : decode b_LW_law 25 = .ok (.iconst 0, 1) := by decide +kernel
theorem d_LW_law_26 : decode b_LW_law 26 = .ok (.istore 5, 2) := by decide +kernel
theorem d_LW_law_28 : decode b_LW_law 28 = .ok (.iload 5, 2) := by decide +kernel
theorem d_LW_law_30 : decode b_LW_law 30 = .ok (.aload_n 0, 1) := by decide +kernel
theorem d_LW_law_31 : decode b_LW_law 31 = .ok (.arraylength, 1) := by decide +kernel
theorem d_LW_law_32 : decode b_LW_law 32 = .ok (.iconst 5, 1) := by decide +kernel
theorem d_LW_law_33 : decode b_LW_law 33 = .ok (.isub, 1) := by decide +kernel
theorem d_LW_law_34 : decode b_LW_law 34 = .ok (.if_icmp .gt 540, 3) := by decide +kernel
theorem d_LW_law_37 : decode b_LW_law 37 = .ok (.aload_n 0, 1) := by decide +kernel
theorem d_LW_law_38 : decode b_LW_law 38 = .ok (.iload 5, 2) := by decide +kernel
theorem d_LW_law_40 : decode b_LW_law 40 = .ok (.iaload, 1) := by decide +kernel
theorem d_LW_law_41 : decode b_LW_law 41 = .ok (.bipush 15, 2) := by decide +kernel
theorem d_LW_law_43 : decode b_LW_law 43 = .ok (.iand, 1) := by decide +kernel
theorem d_LW_law_44 : decode b_LW_law 44 = .ok (.tableswitch 524 0 9 #[56, 120, 181, 245, 296, 325, 354, 443, 483, 496], 56) := by decide +kernel
theorem d_LW_law_100 : decode b_LW_law 100 = .ok (.aload_n 1, 1) := by decide +kernel
theorem d_LW_law_101 : decode b_LW_law 101 = .ok (.aload_n 0, 1) := by decide +kernel
theorem d_LW_law_102 : decode b_LW_law 102 = .ok (.iload 5, 2) := by decide +kernel
theorem d_LW_law_104 : decode b_LW_law 104 = .ok (.iconst 1, 1) := by decide +kernel
theorem d_LW_law_105 : decode b_LW_law 105 = .ok (.iadd, 1) := by decide +kernel
theorem d_LW_law_106 : decode b_LW_law 106 = .ok (.iaload, 1) := by decide +kernel
theorem d_LW_law_107 : decode b_LW_law 107 = .ok (.aload_n 0, 1) := by decide +kernel
theorem d_LW_law_108 : decode b_LW_law 108 = .ok (.iload 5, 2) := by decide +kernel
theorem d_LW_law_110 : decode b_LW_law 110 = .ok (.iconst 2, 1) := by decide +kernel
theorem d_LW_law_111 : decode b_LW_law 111 = .ok (.iadd, 1) := by decide +kernel
theorem d_LW_law_112 : decode b_LW_law 112 = .ok (.iaload, 1) := by decide +kernel
theorem d_LW_law_113 : decode b_LW_law 113 = .ok (.aload_n 0, 1) := by decide +kernel
theorem d_LW_law_114 : decode b_LW_law 114 = .ok (.iload 5, 2) := by decide +kernel
theorem d_LW_law_116 : decode b_LW_law 116 = .ok (.iconst 3, 1) := by decide +kernel
theorem d_LW_law_117 : decode b_LW_law 117 = .ok (.iadd, 1) := by decide +kernel
theorem d_LW_law_118 : decode b_LW_law 118 = .ok (.iaload, 1) := by decide +kernel
theorem d_LW_law_119 : decode b_LW_law 119 = .ok (.aload_n 0, 1) := by decide +kernel
theorem d_LW_law_120 : decode b_LW_law 120 = .ok (.iload 5, 2) := by decide +kernel
theorem d_LW_law_122 : decode b_LW_law 122 = .ok (.iconst 4, 1) := by decide +kernel
theorem d_LW_law_123 : decode b_LW_law 123 = .ok (.iadd, 1) := by decide +kernel
theorem d_LW_law_124 : decode b_LW_law 124 = .ok (.iaload, 1) := by decide +kernel
theorem d_LW_law_125 : decode b_LW_law 125 = .ok (.aload_n 3, 1) := by decide +kernel
theorem d_LW_law_126 : decode b_LW_law 126 = .ok (.invokestatic 59, 3) := by decide +kernel
theorem d_LW_law_129 : decode b_LW_law 129 = .ok (.istore 6, 2) := by decide +kernel
theorem d_LW_law_131 : decode b_LW_law 131 = .ok (.aload_n 2, 1) := by decide +kernel
theorem d_LW_law_132 : decode b_LW_law 132 = .ok (.aload_n 0, 1) := by decide +kernel
theorem d_LW_law_133 : decode b_LW_law 133 = .ok (.iload 5, 2) := by decide +kernel
theorem d_LW_law_135 : decode b_LW_law 135 = .ok (.iconst 1, 1) := by decide +kernel
theorem d_LW_law_136 : decode b_LW_law 136 = .ok (.iadd, 1) := by decide +kernel
theorem d_LW_law_137 : decode b_LW_law 137 = .ok (.iaload, 1) := by decide +kernel
theorem d_LW_law_138 : decode b_LW_law 138 = .ok (.aload_n 0, 1) := by decide +kernel
theorem d_LW_law_139 : decode b_LW_law 139 = .ok (.iload 5, 2) := by decide +kernel
theorem d_LW_law_141 : decode b_LW_law 141 = .ok (.iconst 2, 1) := by decide +kernel
theorem d_LW_law_142 : decode b_LW_law 142 = .ok (.iadd, 1) := by decide +kernel
theorem d_LW_law_143 : decode b_LW_law 143 = .ok (.iaload, 1) := by decide +kernel
theorem d_LW_law_144 : decode b_LW_law 144 = .ok (.aload_n 0, 1) := by decide +kernel
theorem d_LW_law_145 : decode b_LW_law 145 = .ok (.iload 5, 2) := by decide +kernel
theorem d_LW_law_147 : decode b_LW_law 147 = .ok (.iconst 3, 1) := by decide +kernel
theorem d_LW_law_148 : decode b_LW_law 148 = .ok (.iadd, 1) := by decide +kernel
theorem d_LW_law_149 : decode b_LW_law 149 = .ok (.iaload, 1) := by decide +kernel
theorem d_LW_law_150 : decode b_LW_law 150 = .ok (.aload_n 0, 1) := by decide +kernel
theorem d_LW_law_151 : decode b_LW_law 151 = .ok (.iload 5, 2) := by decide +kernel
theorem d_LW_law_153 : decode b_LW_law 153 = .ok (.iconst 4, 1) := by decide +kernel
theorem d_LW_law_154 : decode b_LW_law 154 = .ok (.iadd, 1) := by decide +kernel
theorem d_LW_law_155 : decode b_LW_law 155 = .ok (.iaload, 1) := by decide +kernel
theorem d_LW_law_156 : decode b_LW_law 156 = .ok (.invokevirtual 64, 3) := by decide +kernel
theorem d_LW_law_159 : decode b_LW_law 159 = .ok (.istore 7, 2) := by decide +kernel
theorem d_LW_law_161 : decode b_LW_law 161 = .ok (.goto 407, 3) := by decide +kernel
theorem d_LW_law_164 : decode b_LW_law 164 = .ok (.aload_n 1, 1) := by decide +kernel
theorem d_LW_law_165 : decode b_LW_law 165 = .ok (.aload_n 0, 1) := by decide +kernel
theorem d_LW_law_166 : decode b_LW_law 166 = .ok (.iload 5, 2) := by decide +kernel
theorem d_LW_law_168 : decode b_LW_law 168 = .ok (.iconst 1, 1) := by decide +kernel
theorem d_LW_law_169 : decode b_LW_law 169 = .ok (.iadd, 1) := by decide +kernel
theorem d_LW_law_170 : decode b_LW_law 170 = .ok (.iaload, 1) := by decide +kernel
theorem d_LW_law_171 : decode b_LW_law 171 = .ok (.aload_n 0, 1) := by decide +kernel
theorem d_LW_law_172 : decode b_LW_law 172 = .ok (.iload 5, 2) := by decide +kernel
theorem d_LW_law_174 : decode b_LW_law 174 = .ok (.iconst 2, 1) := by decide +kernel
theorem d_LW_law_175 : decode b_LW_law 175 = .ok (.iadd, 1) := by decide +kernel
theorem d_LW_law_176 : decode b_LW_law 176 = .ok (.iaload, 1) := by decide +kernel
theorem d_LW_law_177 : decode b_LW_law 177 = .ok (.aload_n 0, 1) := by decide +kernel
theorem d_LW_law_178 : decode b_LW_law 178 = .ok (.iload 5, 2) := by decide +kernel
theorem d_LW_law_180 : decode b_LW_law 180 = .ok (.iconst 3, 1) := by decide +kernel
theorem d_LW_law_181 : decode b_LW_law 181 = .ok (.iadd, 1) := by decide +kernel
theorem d_LW_law_182 : decode b_LW_law 182 = .ok (.iaload, 1) := by decide +kernel
theorem d_LW_law_183 : decode b_LW_law 183 = .ok (.aload_n 0, 1) := by decide +kernel
theorem d_LW_law_184 : decode b_LW_law 184 = .ok (.iload 5, 2) := by decide +kernel
theorem d_LW_law_186 : decode b_LW_law 186 = .ok (.iconst 4, 1) := by decide +kernel
theorem d_LW_law_187 : decode b_LW_law 187 = .ok (.iadd, 1) := by decide +kernel
theorem d_LW_law_188 : decode b_LW_law 188 = .ok (.iaload, 1) := by decide +kernel
theorem d_LW_law_189 : decode b_LW_law 189 = .ok (.invokestatic 65, 3) := by decide +kernel
theorem d_LW_law_192 : decode b_LW_law 192 = .ok (.istore 6, 2) := by decide +kernel
theorem d_LW_law_194 : decode b_LW_law 194 = .ok (.aload_n 2, 1) := by decide +kernel
theorem d_LW_law_195 : decode b_LW_law 195 = .ok (.aload_n 0, 1) := by decide +kernel
theorem d_LW_law_196 : decode b_LW_law 196 = .ok (.iload 5, 2) := by decide +kernel
theorem d_LW_law_198 : decode b_LW_law 198 = .ok (.iconst 1, 1) := by decide +kernel
theorem d_LW_law_199 : decode b_LW_law 199 = .ok (.iadd, 1) := by decide +kernel
theorem d_LW_law_200 : decode b_LW_law 200 = .ok (.iaload, 1) := by decide +kernel
theorem d_LW_law_201 : decode b_LW_law 201 = .ok (.aload_n 0, 1) := by decide +kernel
theorem d_LW_law_202 : decode b_LW_law 202 = .ok (.iload 5, 2) := by decide +kernel
theorem d_LW_law_204 : decode b_LW_law 204 = .ok (.iconst 2, 1) := by decide +kernel
theorem d_LW_law_205 : decode b_LW_law 205 = .ok (.iadd, 1) := by decide +kernel
theorem d_LW_law_206 : decode b_LW_law 206 = .ok (.iaload, 1) := by decide +kernel
theorem d_LW_law_207 : decode b_LW_law 207 = .ok (.aload_n 0, 1) := by decide +kernel
theorem d_LW_law_208 : decode b_LW_law 208 = .ok (.iload 5, 2) := by decide +kernel
theorem d_LW_law_210 : decode b_LW_law 210 = .ok (.iconst 3, 1) := by decide +kernel
theorem d_LW_law_211 : decode b_LW_law 211 = .ok (.iadd, 1) := by decide +kernel
theorem d_LW_law_212 : decode b_LW_law 212 = .ok (.iaload, 1) := by decide +kernel
theorem d_LW_law_213 : decode b_LW_law 213 = .ok (.aload_n 0, 1) := by decide +kernel
theorem d_LW_law_214 : decode b_LW_law 214 = .ok (.iload 5, 2) := by decide +kernel
theorem d_LW_law_216 : decode b_LW_law 216 = .ok (.iconst 4, 1) := by decide +kernel
theorem d_LW_law_217 : decode b_LW_law 217 = .ok (.iadd, 1) := by decide +kernel
theorem d_LW_law_218 : decode b_LW_law 218 = .ok (.iaload, 1) := by decide +kernel
theorem d_LW_law_219 : decode b_LW_law 219 = .ok (.invokevirtual 68, 3) := by decide +kernel
theorem d_LW_law_222 : decode b_LW_law 222 = .ok (.goto 346, 3) := by decide +kernel
theorem d_LW_law_225 : decode b_LW_law 225 = .ok (.aload_n 1, 1) := by decide +kernel
theorem d_LW_law_226 : decode b_LW_law 226 = .ok (.aload_n 0, 1) := by decide +kernel
theorem d_LW_law_227 : decode b_LW_law 227 = .ok (.iload 5, 2) := by decide +kernel
theorem d_LW_law_229 : decode b_LW_law 229 = .ok (.iconst 1, 1) := by decide +kernel
theorem d_LW_law_230 : decode b_LW_law 230 = .ok (.iadd, 1) := by decide +kernel
theorem d_LW_law_231 : decode b_LW_law 231 = .ok (.iaload, 1) := by decide +kernel
theorem d_LW_law_232 : decode b_LW_law 232 = .ok (.aload_n 0, 1) := by decide +kernel
theorem d_LW_law_233 : decode b_LW_law 233 = .ok (.iload 5, 2) := by decide +kernel
theorem d_LW_law_235 : decode b_LW_law 235 = .ok (.iconst 2, 1) := by decide +kernel
theorem d_LW_law_236 : decode b_LW_law 236 = .ok (.iadd, 1) := by decide +kernel
theorem d_LW_law_237 : decode b_LW_law 237 = .ok (.iaload, 1) := by decide +kernel
theorem d_LW_law_238 : decode b_LW_law 238 = .ok (.aload_n 0, 1) := by decide +kernel
theorem d_LW_law_239 : decode b_LW_law 239 = .ok (.iload 5, 2) := by decide +kernel
theorem d_LW_law_241 : decode b_LW_law 241 = .ok (.iconst 3, 1) := by decide +kernel
theorem d_LW_law_242 : decode b_LW_law 242 = .ok (.iadd, 1) := by decide +kernel
theorem d_LW_law_243 : decode b_LW_law 243 = .ok (.iaload, 1) := by decide +kernel
theorem d_LW_law_244 : decode b_LW_law 244 = .ok (.aload_n 0, 1) := by decide +kernel
theorem d_LW_law_245 : decode b_LW_law 245 = .ok (.iload 5, 2) := by decide +kernel
theorem d_LW_law_247 : decode b_LW_law 247 = .ok (.iconst 4, 1) := by decide +kernel
theorem d_LW_law_248 : decode b_LW_law 248 = .ok (.iadd, 1) := by decide +kernel
theorem d_LW_law_249 : decode b_LW_law 249 = .ok (.iaload, 1) := by decide +kernel
theorem d_LW_law_250 : decode b_LW_law 250 = .ok (.aload_n 3, 1) := by decide +kernel
theorem d_LW_law_251 : decode b_LW_law 251 = .ok (.invokestatic 69, 3) := by decide +kernel
theorem d_LW_law_254 : decode b_LW_law 254 = .ok (.istore 6, 2) := by decide +kernel
theorem d_LW_law_256 : decode b_LW_law 256 = .ok (.aload_n 2, 1) := by decide +kernel
theorem d_LW_law_257 : decode b_LW_law 257 = .ok (.aload_n 0, 1) := by decide +kernel
theorem d_LW_law_258 : decode b_LW_law 258 = .ok (.iload 5, 2) := by decide +kernel
theorem d_LW_law_260 : decode b_LW_law 260 = .ok (.iconst 1, 1) := by decide +kernel
theorem d_LW_law_261 : decode b_LW_law 261 = .ok (.iadd, 1) := by decide +kernel
theorem d_LW_law_262 : decode b_LW_law 262 = .ok (.iaload, 1) := by decide +kernel
theorem d_LW_law_263 : decode b_LW_law 263 = .ok (.aload_n 0, 1) := by decide +kernel
theorem d_LW_law_264 : decode b_LW_law 264 = .ok (.iload 5, 2) := by decide +kernel
theorem d_LW_law_266 : decode b_LW_law 266 = .ok (.iconst 2, 1) := by decide +kernel
theorem d_LW_law_267 : decode b_LW_law 267 = .ok (.iadd, 1) := by decide +kernel
theorem d_LW_law_268 : decode b_LW_law 268 = .ok (.iaload, 1) := by decide +kernel
theorem d_LW_law_269 : decode b_LW_law 269 = .ok (.aload_n 0, 1) := by decide +kernel
theorem d_LW_law_270 : decode b_LW_law 270 = .ok (.iload 5, 2) := by decide +kernel
theorem d_LW_law_272 : decode b_LW_law 272 = .ok (.iconst 3, 1) := by decide +kernel
theorem d_LW_law_273 : decode b_LW_law 273 = .ok (.iadd, 1) := by decide +kernel
theorem d_LW_law_274 : decode b_LW_law 274 = .ok (.iaload, 1) := by decide +kernel
theorem d_LW_law_275 : decode b_LW_law 275 = .ok (.aload_n 0, 1) := by decide +kernel
theorem d_LW_law_276 : decode b_LW_law 276 = .ok (.iload 5, 2) := by decide +kernel
theorem d_LW_law_278 : decode b_LW_law 278 = .ok (.iconst 4, 1) := by decide +kernel
theorem d_LW_law_279 : decode b_LW_law 279 = .ok (.iadd, 1) := by decide +kernel
theorem d_LW_law_280 : decode b_LW_law 280 = .ok (.iaload, 1) := by decide +kernel
theorem d_LW_law_281 : decode b_LW_law 281 = .ok (.invokevirtual 71, 3) := by decide +kernel
theorem d_LW_law_284 : decode b_LW_law 284 = .ok (.istore 7, 2) := by decide +kernel
theorem d_LW_law_286 : decode b_LW_law 286 = .ok (.goto 282, 3) := by decide +kernel
theorem d_LW_law_289 : decode b_LW_law 289 = .ok (.aload_n 1, 1) := by decide +kernel
theorem d_LW_law_290 : decode b_LW_law 290 = .ok (.aload_n 0, 1) := by decide +kernel
theorem d_LW_law_291 : decode b_LW_law 291 = .ok (.iload 5, 2) := by decide +kernel
theorem d_LW_law_293 : decode b_LW_law 293 = .ok (.iconst 1, 1) := by decide +kernel
theorem d_LW_law_294 : decode b_LW_law 294 = .ok (.iadd, 1) := by decide +kernel
theorem d_LW_law_295 : decode b_LW_law 295 = .ok (.iaload, 1) := by decide +kernel
theorem d_LW_law_296 : decode b_LW_law 296 = .ok (.aload_n 0, 1) := by decide +kernel
theorem d_LW_law_297 : decode b_LW_law 297 = .ok (.iload 5, 2) := by decide +kernel
theorem d_LW_law_299 : decode b_LW_law 299 = .ok (.iconst 2, 1) := by decide +kernel
theorem d_LW_law_300 : decode b_LW_law 300 = .ok (.iadd, 1) := by decide +kernel
theorem d_LW_law_301 : decode b_LW_law 301 = .ok (.iaload, 1) := by decide +kernel
theorem d_LW_law_302 : decode b_LW_law 302 = .ok (.i2d, 1) := by decide +kernel
theorem d_LW_law_303 : decode b_LW_law 303 = .ok (.ldc2_w 72, 3) := by decide +kernel
theorem d_LW_law_306 : decode b_LW_law 306 = .ok (.dmul, 1) := by decide +kernel
theorem d_LW_law_307 : decode b_LW_law 307 = .ok (.aload 4, 2) := by decide +kernel
theorem d_LW_law_309 : decode b_LW_law 309 = .ok (.invokestatic 74, 3) := by decide +kernel
theorem d_LW_law_312 : decode b_LW_law 312 = .ok (.istore 6, 2) := by decide +kernel
theorem d_LW_law_314 : decode b_LW_law 314 = .ok (.aload_n 2, 1) := by decide +kernel
theorem d_LW_law_315 : decode b_LW_law 315 = .ok (.aload_n 0, 1) := by decide +kernel
theorem d_LW_law_316 : decode b_LW_law 316 = .ok (.iload 5, 2) := by decide +kernel
theorem d_LW_law_318 : decode b_LW_law 318 = .ok (.iconst 1, 1) := by decide +kernel
theorem d_LW_law_319 : decode b_LW_law 319 = .ok (.iadd, 1) := by decide +kernel
theorem d_LW_law_320 : decode b_LW_law 320 = .ok (.iaload, 1) := by decide +kernel
theorem d_LW_law_321 : decode b_LW_law 321 = .ok (.aload_n 0, 1) := by decide +kernel
theorem d_LW_law_322 : decode b_LW_law 322 = .ok (.iload 5, 2) := by decide +kernel
theorem d_LW_law_324 : decode b_LW_law 324 = .ok (.iconst 2, 1) := by decide +kernel
theorem d_LW_law_325 : decode b_LW_law 325 = .ok (.iadd, 1) := by decide +kernel
theorem d_LW_law_326 : decode b_LW_law 326 = .ok (.iaload, 1) := by decide +kernel
theorem d_LW_law_327 : decode b_LW_law 327 = .ok (.i2d, 1) := by decide +kernel
theorem d_LW_law_328 : decode b_LW_law 328 = .ok (.ldc2_w 72, 3) := by decide +kernel
theorem d_LW_law_331 : decode b_LW_law 331 = .ok (.dmul, 1) := by decide +kernel
theorem d_LW_law_332 : decode b_LW_law 332 = .ok (.invokevirtual 77, 3) := by decide +kernel
theorem d_LW_law_335 : decode b_LW_law 335 = .ok (.dstore 7, 2) := by decide +kernel
theorem d_LW_law_337 : decode b_LW_law 337 = .ok (.goto 231, 3) := by decide +kernel
theorem d_LW_law_340 : decode b_LW_law 340 = .ok (.aload_n 1, 1) := by decide +kernel
theorem d_LW_law_341 : decode b_LW_law 341 = .ok (.aload_n 0, 1) := by decide +kernel
theorem d_LW_law_342 : decode b_LW_law 342 = .ok (.iload 5, 2) := by decide +kernel
theorem d_LW_law_344 : decode b_LW_law 344 = .ok (.iconst 1, 1) := by decide +kernel
theorem d_LW_law_345 : decode b_LW_law 345 = .ok (.iadd, 1) := by decide +kernel
theorem d_LW_law_346 : decode b_LW_law 346 = .ok (.iaload, 1) := by decide +kernel
theorem d_LW_law_347 : decode b_LW_law 347 = .ok (.aload 4, 2) := by decide +kernel
theorem d_LW_law_349 : decode b_LW_law 349 = .ok (.invokestatic 78, 3) := by decide +kernel
theorem d_LW_law_352 : decode b_LW_law 352 = .ok (.istore 6, 2) := by decide +kernel
theorem d_LW_law_354 : decode b_LW_law 354 = .ok (.aload_n 2, 1) := by decide +kernel
theorem d_LW_law_355 : decode b_LW_law 355 = .ok (.aload_n 0, 1) := by decide +kernel
theorem d_LW_law_356 : decode b_LW_law 356 = .ok (.iload 5, 2) := by decide +kernel
theorem d_LW_law_358 : decode b_LW_law 358 = .ok (.iconst 1, 1) := by decide +kernel
theorem d_LW_law_359 : decode b_LW_law 359 = .ok (.iadd, 1) := by decide +kernel
theorem d_LW_law_360 : decode b_LW_law 360 = .ok (.iaload, 1) := by decide +kernel
theorem d_LW_law_361 : decode b_LW_law 361 = .ok (.invokevirtual 81, 3) := by decide +kernel
theorem d_LW_law_364 : decode b_LW_law 364 = .ok (.dstore 7, 2) := by decide +kernel
theorem d_LW_law_366 : decode b_LW_law 366 = .ok (.goto 202, 3) := by decide +kernel
theorem d_LW_law_369 : decode b_LW_law 369 = .ok (.aload_n 1, 1) := by decide +kernel
theorem d_LW_law_370 : decode b_LW_law 370 = .ok (.aload_n 0, 1) := by decide +kernel
theorem d_LW_law_371 : decode b_LW_law 371 = .ok (.iload 5, 2) := by decide +kernel
theorem d_LW_law_373 : decode b_LW_law 373 = .ok (.iconst 1, 1) := by decide +kernel
theorem d_LW_law_374 : decode b_LW_law 374 = .ok (.iadd, 1) := by decide +kernel
theorem d_LW_law_375 : decode b_LW_law 375 = .ok (.iaload, 1) := by decide +kernel
theorem d_LW_law_376 : decode b_LW_law 376 = .ok (.aload 4, 2) := by decide +kernel
theorem d_LW_law_378 : decode b_LW_law 378 = .ok (.invokestatic 82, 3) := by decide +kernel
theorem d_LW_law_381 : decode b_LW_law 381 = .ok (.istore 6, 2) := by decide +kernel
theorem d_LW_law_383 : decode b_LW_law 383 = .ok (.aload_n 2, 1) := by decide +kernel
theorem d_LW_law_384 : decode b_LW_law 384 = .ok (.aload_n 0, 1) := by decide +kernel
theorem d_LW_law_385 : decode b_LW_law 385 = .ok (.iload 5, 2) := by decide +kernel
theorem d_LW_law_387 : decode b_LW_law 387 = .ok (.iconst 1, 1) := by decide +kernel
theorem d_LW_law_388 : decode b_LW_law 388 = .ok (.iadd, 1) := by decide +kernel
theorem d_LW_law_389 : decode b_LW_law 389 = .ok (.iaload, 1) := by decide +kernel
theorem d_LW_law_390 : decode b_LW_law 390 = .ok (.invokevirtual 84, 3) := by decide +kernel
theorem d_LW_law_393 : decode b_LW_law 393 = .ok (.dstore 7, 2) := by decide +kernel
theorem d_LW_law_395 : decode b_LW_law 395 = .ok (.goto 173, 3) := by decide +kernel
theorem d_LW_law_398 : decode b_LW_law 398 = .ok (.aload_n 1, 1) := by decide +kernel
theorem d_LW_law_399 : decode b_LW_law 399 = .ok (.aload_n 0, 1) := by decide +kernel
theorem d_LW_law_400 : decode b_LW_law 400 = .ok (.iload 5, 2) := by decide +kernel
theorem d_LW_law_402 : decode b_LW_law 402 = .ok (.iconst 1, 1) := by decide +kernel
theorem d_LW_law_403 : decode b_LW_law 403 = .ok (.iadd, 1) := by decide +kernel
theorem d_LW_law_404 : decode b_LW_law 404 = .ok (.iaload, 1) := by decide +kernel
theorem d_LW_law_405 : decode b_LW_law 405 = .ok (.aload_n 0, 1) := by decide +kernel
theorem d_LW_law_406 : decode b_LW_law 406 = .ok (.iload 5, 2) := by decide +kernel
theorem d_LW_law_408 : decode b_LW_law 408 = .ok (.iconst 2, 1) := by decide +kernel
theorem d_LW_law_409 : decode b_LW_law 409 = .ok (.iadd, 1) := by decide +kernel
theorem d_LW_law_410 : decode b_LW_law 410 = .ok (.iaload, 1) := by decide +kernel
theorem d_LW_law_411 : decode b_LW_law 411 = .ok (.aload 4, 2) := by decide +kernel
theorem d_LW_law_413 : decode b_LW_law 413 = .ok (.invokestatic 85, 3) := by decide +kernel
theorem d_LW_law_416 : decode b_LW_law 416 = .ok (.istore 6, 2) := by decide +kernel
theorem d_LW_law_418 : decode b_LW_law 418 = .ok (.aload_n 2, 1) := by decide +kernel
theorem d_LW_law_419 : decode b_LW_law 419 = .ok (.aload_n 0, 1) := by decide +kernel
theorem d_LW_law_420 : decode b_LW_law 420 = .ok (.iload 5, 2) := by decide +kernel
theorem d_LW_law_422 : decode b_LW_law 422 = .ok (.iconst 1, 1) := by decide +kernel
theorem d_LW_law_423 : decode b_LW_law 423 = .ok (.iadd, 1) := by decide +kernel
theorem d_LW_law_424 : decode b_LW_law 424 = .ok (.iaload, 1) := by decide +kernel
theorem d_LW_law_425 : decode b_LW_law 425 = .ok (.aload_n 0, 1) := by decide +kernel
theorem d_LW_law_426 : decode b_LW_law 426 = .ok (.iload 5, 2) := by decide +kernel
theorem d_LW_law_428 : decode b_LW_law 428 = .ok (.iconst 2, 1) := by decide +kernel
theorem d_LW_law_429 : decode b_LW_law 429 = .ok (.iadd, 1) := by decide +kernel
theorem d_LW_law_430 : decode b_LW_law 430 = .ok (.iaload, 1) := by decide +kernel
theorem d_LW_law_431 : decode b_LW_law 431 = .ok (.invokevirtual 88, 3) := by decide +kernel
theorem d_LW_law_434 : decode b_LW_law 434 = .ok (.dstore 7, 2) := by decide +kernel
theorem d_LW_law_436 : decode b_LW_law 436 = .ok (.aload_n 2, 1) := by decide +kernel
theorem d_LW_law_437 : decode b_LW_law 437 = .ok (.invokevirtual 89, 3) := by decide +kernel
theorem d_LW_law_440 : decode b_LW_law 440 = .ok (.iload 6, 2) := by decide +kernel
theorem d_LW_law_442 : decode b_LW_law 442 = .ok (.if_icmp .eq 5, 3) := by decide +kernel
theorem d_LW_law_445 : decode b_LW_law 445 = .ok (.iconst 0, 1) := by decide +kernel
theorem d_LW_law_446 : decode b_LW_law 446 = .ok (.ireturn, 1) := by decide +kernel
theorem d_LW_law_447 : decode b_LW_law 447 = .ok (.iload 6, 2) := by decide +kernel
theorem d_LW_law_449 : decode b_LW_law 449 = .ok (.ifCond .ne 35, 3) := by decide +kernel
theorem d_LW_law_452 : decode b_LW_law 452 = .ok (.aload 4, 2) := by decide +kernel
theorem d_LW_law_454 : decode b_LW_law 454 = .ok (.iconst 0, 1) := by decide +kernel
theorem d_LW_law_455 : decode b_LW_law 455 = .ok (.daload, 1) := by decide +kernel
theorem d_LW_law_456 : decode b_LW_law 456 = .ok (.dload 7, 2) := by decide +kernel
theorem d_LW_law_458 : decode b_LW_law 458 = .ok (.dcmp .l, 1) := by decide +kernel
theorem d_LW_law_459 : decode b_LW_law 459 = .ok (.ifCond .eq 25, 3) := by decide +kernel
theorem d_LW_law_462 : decode b_LW_law 462 = .ok (.aload 4, 2) := by decide +kernel
theorem d_LW_law_464 : decode b_LW_law 464 = .ok (.iconst 0, 1) := by decide +kernel
theorem d_LW_law_465 : decode b_LW_law 465 = .ok (.daload, 1) := by decide +kernel
theorem d_LW_law_466 : decode b_LW_law 466 = .ok (.aload 4, 2) := by decide +kernel
theorem d_LW_law_468 : decode b_LW_law 468 = .ok (.iconst 0, 1) := by decide +kernel
theorem d_LW_law_469 : decode b_LW_law 469 = .ok (.daload, 1) := by decide +kernel
theorem d_LW_law_470 : decode b_LW_law 470 = .ok (.dcmp .l, 1) := by decide +kernel
theorem d_LW_law_471 : decode b_LW_law 471 = .ok (.ifCond .eq 11, 3) := by decide +kernel
theorem d_LW_law_474 : decode b_LW_law 474 = .ok (.dload 7, 2) := by decide +kernel
theorem d_LW_law_476 : decode b_LW_law 476 = .ok (.dload 7, 2) := by decide +kernel
theorem d_LW_law_478 : decode b_LW_law 478 = .ok (.dcmp .l, 1) := by decide +kernel
theorem d_LW_law_479 : decode b_LW_law 479 = .ok (.ifCond .ne 5, 3) := by decide +kernel
theorem d_LW_law_482 : decode b_LW_law 482 = .ok (.iconst 0, 1) := by decide +kernel
theorem d_LW_law_483 : decode b_LW_law 483 = .ok (.ireturn, 1) := by decide +kernel
theorem d_LW_law_484 : decode b_LW_law 484 = .ok (.goto 84, 3) := by decide +kernel
theorem d_LW_law_487 : decode b_LW_law 487 = .ok (.aload_n 1, 1) := by decide +kernel
theorem d_LW_law_488 : decode b_LW_law 488 = .ok (.aload_n 0, 1) := by decide +kernel
theorem d_LW_law_489 : decode b_LW_law 489 = .ok (.iload 5, 2) := by decide +kernel
theorem d_LW_law_491 : decode b_LW_law 491 = .ok (.iconst 1, 1) := by decide +kernel
theorem d_LW_law_492 : decode b_LW_law 492 = .ok (.iadd, 1) := by decide +kernel
theorem d_LW_law_493 : decode b_LW_law 493 = .ok (.iaload, 1) := by decide +kernel
theorem d_LW_law_494 : decode b_LW_law 494 = .ok (.aload_n 0, 1) := by decide +kernel
theorem d_LW_law_495 : decode b_LW_law 495 = .ok (.iload 5, 2) := by decide +kernel
theorem d_LW_law_497 : decode b_LW_law 497 = .ok (.iconst 2, 1) := by decide +kernel
theorem d_LW_law_498 : decode b_LW_law 498 = .ok (.iadd, 1) := by decide +kernel
theorem d_LW_law_499 : decode b_LW_law 499 = .ok (.iaload, 1) := by decide +kernel
theorem d_LW_law_500 : decode b_LW_law 500 = .ok (.aload_n 3, 1) := by decide +kernel
theorem d_LW_law_501 : decode b_LW_law 501 = .ok (.invokestatic 93, 3) := by decide +kernel
theorem d_LW_law_504 : decode b_LW_law 504 = .ok (.istore 6, 2) := by decide +kernel
theorem d_LW_law_506 : decode b_LW_law 506 = .ok (.aload_n 2, 1) := by decide +kernel
theorem d_LW_law_507 : decode b_LW_law 507 = .ok (.aload_n 0, 1) := by decide +kernel
theorem d_LW_law_508 : decode b_LW_law 508 = .ok (.iload 5, 2) := by decide +kernel
theorem d_LW_law_510 : decode b_LW_law 510 = .ok (.iconst 1, 1) := by decide +kernel
theorem d_LW_law_511 : decode b_LW_law 511 = .ok (.iadd, 1) := by decide +kernel
theorem d_LW_law_512 : decode b_LW_law 512 = .ok (.iaload, 1) := by decide +kernel
theorem d_LW_law_513 : decode b_LW_law 513 = .ok (.aload_n 0, 1) := by decide +kernel
theorem d_LW_law_514 : decode b_LW_law 514 = .ok (.iload 5, 2) := by decide +kernel
theorem d_LW_law_516 : decode b_LW_law 516 = .ok (.iconst 2, 1) := by decide +kernel
theorem d_LW_law_517 : decode b_LW_law 517 = .ok (.iadd, 1) := by decide +kernel
theorem d_LW_law_518 : decode b_LW_law 518 = .ok (.iaload, 1) := by decide +kernel
theorem d_LW_law_519 : decode b_LW_law 519 = .ok (.invokevirtual 96, 3) := by decide +kernel
theorem d_LW_law_522 : decode b_LW_law 522 = .ok (.istore 7, 2) := by decide +kernel
theorem d_LW_law_524 : decode b_LW_law 524 = .ok (.goto 44, 3) := by decide +kernel
theorem d_LW_law_527 : decode b_LW_law 527 = .ok (.aload_n 1, 1) := by decide +kernel
theorem d_LW_law_528 : decode b_LW_law 528 = .ok (.invokevirtual 97, 3) := by decide +kernel
theorem d_LW_law_531 : decode b_LW_law 531 = .ok (.pop, 1) := by decide +kernel
theorem d_LW_law_532 : decode b_LW_law 532 = .ok (.aload_n 2, 1) := by decide +kernel
theorem d_LW_law_533 : decode b_LW_law 533 = .ok (.invokevirtual 100, 3) := by decide +kernel
theorem d_LW_law_536 : decode b_LW_law 536 = .ok (.pop, 1) := by decide +kernel
theorem d_LW_law_537 : decode b_LW_law 537 = .ok (.goto 31, 3) := by decide +kernel
theorem d_LW_law_540 : decode b_LW_law 540 = .ok (.aload_n 1, 1) := by decide +kernel
theorem d_LW_law_541 : decode b_LW_law 541 = .ok (.aload_n 0, 1) := by decide +kernel
theorem d_LW_law_542 : decode b_LW_law 542 = .ok (.iload 5, 2) := by decide +kernel
theorem d_LW_law_544 : decode b_LW_law 544 = .ok (.iconst 1, 1) := by decide +kernel
theorem d_LW_law_545 : decode b_LW_law 545 = .ok (.iadd, 1) := by decide +kernel
theorem d_LW_law_546 : decode b_LW_law 546 = .ok (.iaload, 1) := by decide +kernel
theorem d_LW_law_547 : decode b_LW_law 547 = .ok (.aload_n 3, 1) := by decide +kernel
theorem d_LW_law_548 : decode b_LW_law 548 = .ok (.invokestatic 101, 3) := by decide +kernel
theorem d_LW_law_551 : decode b_LW_law 551 = .ok (.istore 6, 2) := by decide +kernel
theorem d_LW_law_553 : decode b_LW_law 553 = .ok (.aload_n 2, 1) := by decide +kernel
theorem d_LW_law_554 : decode b_LW_law 554 = .ok (.aload_n 0, 1) := by decide +kernel
theorem d_LW_law_555 : decode b_LW_law 555 = .ok (.iload 5, 2) := by decide +kernel
theorem d_LW_law_557 : decode b_LW_law 557 = .ok (.iconst 1, 1) := by decide +kernel
theorem d_LW_law_558 : decode b_LW_law 558 = .ok (.iadd, 1) := by decide +kernel
theorem d_LW_law_559 : decode b_LW_law 559 = .ok (.iaload, 1) := by decide +kernel
theorem d_LW_law_560 : decode b_LW_law 560 = .ok (.invokevirtual 104, 3) := by decide +kernel
theorem d_LW_law_563 : decode b_LW_law 563 = .ok (.istore 7, 2) := by decide +kernel
theorem d_LW_law_565 : decode b_LW_law 565 = .ok (.goto 3, 3) := by decide +kernel
theorem d_LW_law_568 : decode b_LW_law 568 = .ok (.iinc 5 5, 3) := by decide +kernel
theorem d_LW_law_571 : decode b_LW_law 571 = .ok (.goto (-543), 3) := by decide +kernel
theorem d_LW_law_574 : decode b_LW_law 574 = .ok (.iconst 1, 1) := by decide +kernel
theorem d_LW_law_575 : decode b_LW_law 575 = .ok (.ireturn, 1) := by decide +kernel
