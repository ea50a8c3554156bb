theorem d_0_0 : decode (xB 0) 0 = .ok (.new 7, 3) := by decide +kernel
theorem d_0_3 : decode (xB 0) 3 = .ok (.dup, 1) := by decide +kernel
theorem d_0_4 : decode (xB 0) 4 = .ok (.invokespecial 9, 3) := by decide +kernel
theorem d_0_7 : decode (xB 0) 7 = .ok (.astore_n 1, 1) := by decide +kernel
theorem d_0_8 : decode (xB 0) 8 = .ok (.new 10, 3) := by decide +kernel
theorem d_0_11 : decode (xB 0) 11 = .ok (.dup, 1) := by decide +kernel
theorem d_0_12 : decode (xB 0) 12 = .ok (.invokespecial 12, 3) := by decide +kernel
theorem d_0_15 : decode (xB 0) 15 = .ok (.astore_n 2, 1) := by decide +kernel
theorem d_0_16 : decode (xB 0) 16 = .ok (.iconst 0, 1) := by decide +kernel
theorem d_0_17 : decode (xB 0) 17 = .ok (.istore_n 3, 1) := by decide +kernel
theorem d_0_18 : decode (xB 0) 18 = .ok (.iload_n 3, 1) := by decide +kernel
theorem d_0_19 : decode (xB 0) 19 = .ok (.aload_n 0, 1) := by decide +kernel
theorem d_0_20 : decode (xB 0) 20 = .ok (.arraylength, 1) := by decide +kernel
theorem d_0_21 : decode (xB 0) 21 = .ok (.iconst 3, 1) := by decide +kernel
theorem d_0_22 : decode (xB 0) 22 = .ok (.isub, 1) := by decide +kernel
theorem d_0_23 : decode (xB 0) 23 = .ok (.if_icmp .gt 293, 3) := by decide +kernel
theorem d_0_26 : decode (xB 0) 26 = .ok (.aload_n 0, 1) := by decide +kernel
theorem d_0_27 : decode (xB 0) 27 = .ok (.iload_n 3, 1) := by decide +kernel
theorem d_0_28 : decode (xB 0) 28 = .ok (.iaload, 1) := by decide +kernel
theorem d_0_29 : decode (xB 0) 29 = .ok (.bipush 15, 2) := by decide +kernel
theorem d_0_31 : decode (xB 0) 31 = .ok (.iand, 1) := by decide +kernel
theorem d_0_32 : decode (xB 0) 32 = .ok (.tableswitch 278 0 11 #[64, 87, 100, 111, 144, 157, 170, 203, 226, 239, 252, 265], 64) := by decide +kernel
theorem d_0_96 : decode (xB 0) 96 = .ok (.aload_n 1, 1) := by decide +kernel
theorem d_0_97 : decode (xB 0) 97 = .ok (.aload_n 0, 1) := by decide +kernel
theorem d_0_98 : decode (xB 0) 98 = .ok (.iload_n 3, 1) := by decide +kernel
theorem d_0_99 : decode (xB 0) 99 = .ok (.iconst 1, 1) := by decide +kernel
theorem d_0_100 : decode (xB 0) 100 = .ok (.iadd, 1) := by decide +kernel
theorem d_0_101 : decode (xB 0) 101 = .ok (.iaload, 1) := by decide +kernel
theorem d_0_102 : decode (xB 0) 102 = .ok (.invokevirtual 13, 3) := by decide +kernel
theorem d_0_105 : decode (xB 0) 105 = .ok (.aload_n 2, 1) := by decide +kernel
theorem d_0_106 : decode (xB 0) 106 = .ok (.aload_n 0, 1) := by decide +kernel
theorem d_0_107 : decode (xB 0) 107 = .ok (.iload_n 3, 1) := by decide +kernel
theorem d_0_108 : decode (xB 0) 108 = .ok (.iconst 1, 1) := by decide +kernel
theorem d_0_109 : decode (xB 0) 109 = .ok (.iadd, 1) := by decide +kernel
theorem d_0_110 : decode (xB 0) 110 = .ok (.iaload, 1) := by decide +kernel
theorem d_0_111 : decode (xB 0) 111 = .ok (.invokevirtual 17, 3) := by decide +kernel
theorem d_0_114 : decode (xB 0) 114 = .ok (.if_icmp .eq 196, 3) := by decide +kernel
theorem d_0_117 : decode (xB 0) 117 = .ok (.iconst 0, 1) := by decide +kernel
theorem d_0_118 : decode (xB 0) 118 = .ok (.ireturn, 1) := by decide +kernel
theorem d_0_119 : decode (xB 0) 119 = .ok (.aload_n 1, 1) := by decide +kernel
theorem d_0_120 : decode (xB 0) 120 = .ok (.invokevirtual 18, 3) := by decide +kernel
theorem d_0_123 : decode (xB 0) 123 = .ok (.aload_n 2, 1) := by decide +kernel
theorem d_0_124 : decode (xB 0) 124 = .ok (.invokevirtual 22, 3) := by decide +kernel
theorem d_0_127 : decode (xB 0) 127 = .ok (.if_icmp .eq 183, 3) := by decide +kernel
theorem d_0_130 : decode (xB 0) 130 = .ok (.iconst 0, 1) := by decide +kernel
theorem d_0_131 : decode (xB 0) 131 = .ok (.ireturn, 1) := by decide +kernel
theorem d_0_132 : decode (xB 0) 132 = .ok (.aload_n 1, 1) := by decide +kernel
theorem d_0_133 : decode (xB 0) 133 = .ok (.invokevirtual 23, 3) := by decide +kernel
theorem d_0_136 : decode (xB 0) 136 = .ok (.aload_n 2, 1) := by decide +kernel
theorem d_0_137 : decode (xB 0) 137 = .ok (.invokevirtual 26, 3) := by decide +kernel
theorem d_0_140 : decode (xB 0) 140 = .ok (.goto 170, 3) := by decide +kernel
theorem d_0_143 : decode (xB 0) 143 = .ok (.aload_n 1, 1) := by decide +kernel
theorem d_0_144 : decode (xB 0) 144 = .ok (.aload_n 0, 1) := by decide +kernel
theorem d_0_145 : decode (xB 0) 145 = .ok (.iload_n 3, 1) := by decide +kernel
theorem d_0_146 : decode (xB 0) 146 = .ok (.iconst 1, 1) := by decide +kernel
theorem d_0_147 : decode (xB 0) 147 = .ok (.iadd, 1) := by decide +kernel
theorem d_0_148 : decode (xB 0) 148 = .ok (.iaload, 1) := by decide +kernel
theorem d_0_149 : decode (xB 0) 149 = .ok (.aload_n 0, 1) := by decide +kernel
theorem d_0_150 : decode (xB 0) 150 = .ok (.iload_n 3, 1) := by decide +kernel
theorem d_0_151 : decode (xB 0) 151 = .ok (.iconst 2, 1) := by decide +kernel
theorem d_0_152 : decode (xB 0) 152 = .ok (.iadd, 1) := by decide +kernel
theorem d_0_153 : decode (xB 0) 153 = .ok (.iaload, 1) := by decide +kernel
theorem d_0_154 : decode (xB 0) 154 = .ok (.invokevirtual 27, 3) := by decide +kernel
theorem d_0_157 : decode (xB 0) 157 = .ok (.aload_n 2, 1) := by decide +kernel
theorem d_0_158 : decode (xB 0) 158 = .ok (.aload_n 0, 1) := by decide +kernel
theorem d_0_159 : decode (xB 0) 159 = .ok (.iload_n 3, 1) := by decide +kernel
theorem d_0_160 : decode (xB 0) 160 = .ok (.iconst 1, 1) := by decide +kernel
theorem d_0_161 : decode (xB 0) 161 = .ok (.iadd, 1) := by decide +kernel
theorem d_0_162 : decode (xB 0) 162 = .ok (.iaload, 1) := by decide +kernel
theorem d_0_163 : decode (xB 0) 163 = .ok (.aload_n 0, 1) := by decide +kernel
theorem d_0_164 : decode (xB 0) 164 = .ok (.iload_n 3, 1) := by decide +kernel
theorem d_0_165 : decode (xB 0) 165 = .ok (.iconst 2, 1) := by decide +kernel
theorem d_0_166 : decode (xB 0) 166 = .ok (.iadd, 1) := by decide +kernel
theorem d_0_167 : decode (xB 0) 167 = .ok (.iaload, 1) := by decide +kernel
theorem d_0_168 : decode (xB 0) 168 = .ok (.invokevirtual 31, 3) := by decide +kernel
theorem d_0_171 : decode (xB 0) 171 = .ok (.if_icmp .eq 139, 3) := by decide +kernel
theorem d_0_174 : decode (xB 0) 174 = .ok (.iconst 0, 1) := by decide +kernel
theorem d_0_175 : decode (xB 0) 175 = .ok (.ireturn, 1) := by decide +kernel
theorem d_0_176 : decode (xB 0) 176 = .ok (.aload_n 1, 1) := by decide +kernel
theorem d_0_177 : decode (xB 0) 177 = .ok (.invokevirtual 32, 3) := by decide +kernel
theorem d_0_180 : decode (xB 0) 180 = .ok (.aload_n 2, 1) := by decide +kernel
theorem d_0_181 : decode (xB 0) 181 = .ok (.invokevirtual 35, 3) := by decide +kernel
theorem d_0_184 : decode (xB 0) 184 = .ok (.if_icmp .eq 126, 3) := by decide +kernel
theorem d_0_187 : decode (xB 0) 187 = .ok (.iconst 0, 1) := by decide +kernel
theorem d_0_188 : decode (xB 0) 188 = .ok (.ireturn, 1) := by decide +kernel
theorem d_0_189 : decode (xB 0) 189 = .ok (.aload_n 1, 1) := by decide +kernel
theorem d_0_190 : decode (xB 0) 190 = .ok (.invokevirtual 36, 3) := by decide +kernel
theorem d_0_193 : decode (xB 0) 193 = .ok (.aload_n 2, 1) := by decide +kernel
theorem d_0_194 : decode (xB 0) 194 = .ok (.invokevirtual 39, 3) := by decide +kernel
theorem d_0_197 : decode (xB 0) 197 = .ok (.if_icmp .eq 113, 3) := by decide +kernel
theorem d_0_200 : decode (xB 0) 200 = .ok (.iconst 0, 1) := by decide +kernel
theorem d_0_201 : decode (xB 0) 201 = .ok (.ireturn, 1) := by decide +kernel
theorem d_0_202 : decode (xB 0) 202 = .ok (.aload_n 1, 1) := by decide +kernel
theorem d_0_203 : decode (xB 0) 203 = .ok (.aload_n 0, 1) := by decide +kernel
theorem d_0_204 : decode (xB 0) 204 = .ok (.iload_n 3, 1) := by decide +kernel
theorem d_0_205 : decode (xB 0) 205 = .ok (.iconst 1, 1) := by decide +kernel
theorem d_0_206 : decode (xB 0) 206 = .ok (.iadd, 1) := by decide +kernel
theorem d_0_207 : decode (xB 0) 207 = .ok (.iaload, 1) := by decide +kernel
theorem d_0_208 : decode (xB 0) 208 = .ok (.aload_n 0, 1) := by decide +kernel
theorem d_0_209 : decode (xB 0) 209 = .ok (.iload_n 3, 1) := by decide +kernel
theorem d_0_210 : decode (xB 0) 210 = .ok (.iconst 2, 1) := by decide +kernel
theorem d_0_211 : decode (xB 0) 211 = .ok (.iadd, 1) := by decide +kernel
theorem d_0_212 : decode (xB 0) 212 = .ok (.iaload, 1) := by decide +kernel
theorem d_0_213 : decode (xB 0) 213 = .ok (.invokevirtual 40, 3) := by decide +kernel
theorem d_0_216 : decode (xB 0) 216 = .ok (.aload_n 2, 1) := by decide +kernel
theorem d_0_217 : decode (xB 0) 217 = .ok (.aload_n 0, 1) := by decide +kernel
theorem d_0_218 : decode (xB 0) 218 = .ok (.iload_n 3, 1) := by decide +kernel
theorem d_0_219 : decode (xB 0) 219 = .ok (.iconst 1, 1) := by decide +kernel
theorem d_0_220 : decode (xB 0) 220 = .ok (.iadd, 1) := by decide +kernel
theorem d_0_221 : decode (xB 0) 221 = .ok (.iaload, 1) := by decide +kernel
theorem d_0_222 : decode (xB 0) 222 = .ok (.aload_n 0, 1) := by decide +kernel
theorem d_0_223 : decode (xB 0) 223 = .ok (.iload_n 3, 1) := by decide +kernel
theorem d_0_224 : decode (xB 0) 224 = .ok (.iconst 2, 1) := by decide +kernel
theorem d_0_225 : decode (xB 0) 225 = .ok (.iadd, 1) := by decide +kernel
theorem d_0_226 : decode (xB 0) 226 = .ok (.iaload, 1) := by decide +kernel
theorem d_0_227 : decode (xB 0) 227 = .ok (.invokevirtual 43, 3) := by decide +kernel
theorem d_0_230 : decode (xB 0) 230 = .ok (.if_icmp .eq 80, 3) := by decide +kernel
theorem d_0_233 : decode (xB 0) 233 = .ok (.iconst 0, 1) := by decide +kernel
theorem d_0_234 : decode (xB 0) 234 = .ok (.ireturn, 1) := by decide +kernel
theorem d_0_235 : decode (xB 0) 235 = .ok (.aload_n 1, 1) := by decide +kernel
theorem d_0_236 : decode (xB 0) 236 = .ok (.aload_n 0, 1) := by decide +kernel
theorem d_0_237 : decode (xB 0) 237 = .ok (.iload_n 3, 1) := by decide +kernel
theorem d_0_238 : decode (xB 0) 238 = .ok (.iconst 1, 1) := by decide +kernel
theorem d_0_239 : decode (xB 0) 239 = .ok (.iadd, 1) := by decide +kernel
theorem d_0_240 : decode (xB 0) 240 = .ok (.iaload, 1) := by decide +kernel
theorem d_0_241 : decode (xB 0) 241 = .ok (.invokevirtual 44, 3) := by decide +kernel
theorem d_0_244 : decode (xB 0) 244 = .ok (.aload_n 2, 1) := by decide +kernel
theorem d_0_245 : decode (xB 0) 245 = .ok (.aload_n 0, 1) := by decide +kernel
theorem d_0_246 : decode (xB 0) 246 = .ok (.iload_n 3, 1) := by decide +kernel
theorem d_0_247 : decode (xB 0) 247 = .ok (.iconst 1, 1) := by decide +kernel
theorem d_0_248 : decode (xB 0) 248 = .ok (.iadd, 1) := by decide +kernel
theorem d_0_249 : decode (xB 0) 249 = .ok (.iaload, 1) := by decide +kernel
theorem d_0_250 : decode (xB 0) 250 = .ok (.invokevirtual 47, 3) := by decide +kernel
theorem d_0_253 : decode (xB 0) 253 = .ok (.if_icmp .eq 57, 3) := by decide +kernel
theorem d_0_256 : decode (xB 0) 256 = .ok (.iconst 0, 1) := by decide +kernel
theorem d_0_257 : decode (xB 0) 257 = .ok (.ireturn, 1) := by decide +kernel
theorem d_0_258 : decode (xB 0) 258 = .ok (.aload_n 1, 1) := by decide +kernel
theorem d_0_259 : decode (xB 0) 259 = .ok (.invokevirtual 48, 3) := by decide +kernel
theorem d_0_262 : decode (xB 0) 262 = .ok (.aload_n 2, 1) := by decide +kernel
theorem d_0_263 : decode (xB 0) 263 = .ok (.invokevirtual 51, 3) := by decide +kernel
theorem d_0_266 : decode (xB 0) 266 = .ok (.if_icmp .eq 44, 3) := by decide +kernel
theorem d_0_269 : decode (xB 0) 269 = .ok (.iconst 0, 1) := by decide +kernel
theorem d_0_270 : decode (xB 0) 270 = .ok (.ireturn, 1) := by decide +kernel
theorem d_0_271 : decode (xB 0) 271 = .ok (.aload_n 1, 1) := by decide +kernel
theorem d_0_272 : decode (xB 0) 272 = .ok (.invokevirtual 52, 3) := by decide +kernel
theorem d_0_275 : decode (xB 0) 275 = .ok (.aload_n 2, 1) := by decide +kernel
theorem d_0_276 : decode (xB 0) 276 = .ok (.invokevirtual 55, 3) := by decide +kernel
theorem d_0_279 : decode (xB 0) 279 = .ok (.if_icmp .eq 31, 3) := by decide +kernel
theorem d_0_282 : decode (xB 0) 282 = .ok (.iconst 0, 1) := by decide +kernel
theorem d_0_283 : decode (xB 0) 283 = .ok (.ireturn, 1) := by decide +kernel
theorem d_0_284 : decode (xB 0) 284 = .ok (.aload_n 1, 1) := by decide +kernel
theorem d_0_285 : decode (xB 0) 285 = .ok (.invokevirtual 56, 3) := by decide +kernel
theorem d_0_288 : decode (xB 0) 288 = .ok (.aload_n 2, 1) := by decide +kernel
theorem d_0_289 : decode (xB 0) 289 = .ok (.invokevirtual 59, 3) := by decide +kernel
theorem d_0_292 : decode (xB 0) 292 = .ok (.if_icmp .eq 18, 3) := by decide +kernel
theorem d_0_295 : decode (xB 0) 295 = .ok (.iconst 0, 1) := by decide +kernel
theorem d_0_296 : decode (xB 0) 296 = .ok (.ireturn, 1) := by decide +kernel
theorem d_0_297 : decode (xB 0) 297 = .ok (.aload_n 1, 1) := by decide +kernel
theorem d_0_298 : decode (xB 0) 298 = .ok (.invokevirtual 60, 3) := by decide +kernel
theorem d_0_301 : decode (xB 0) 301 = .ok (.aload_n 2, 1) := by decide +kernel
theorem d_0_302 : decode (xB 0) 302 = .ok (.invokevirtual 63, 3) := by decide +kernel
theorem d_0_305 : decode (xB 0) 305 = .ok (.if_icmp .eq 5, 3) := by decide +kernel
theorem d_0_308 : decode (xB 0) 308 = .ok (.iconst 0, 1) := by decide +kernel
theorem d_0_309 : decode (xB 0) 309 = .ok (.ireturn, 1) := by decide +kernel
theorem d_0_310 : decode (xB 0) 310 = .ok (.iinc 3 3, 3) := by decide +kernel
theorem d_0_313 : decode (xB 0) 313 = .ok (.goto (-295), 3) := by decide +kernel
theorem d_0_316 : decode (xB 0) 316 = .ok (.iconst 1, 1) := by decide +kernel
theorem d_0_317 : decode (xB 0) 317 = .ok (.ireturn, 1) := by decide +kernel
theorem d_1_0 : decode (xB 1) 0 = .ok (.aload_n 0, 1) := by decide +kernel
theorem d_1_1 : decode (xB 1) 1 = .ok (.invokespecial 1, 3) := by decide +kernel
theorem d_1_4 : decode (xB 1) 4 = .ok (.aload_n 0, 1) := by decide +kernel
theorem d_1_5 : decode (xB 1) 5 = .ok (.new 7, 3) := by decide +kernel
theorem d_1_8 : decode (xB 1) 8 = .ok (.dup, 1) := by decide +kernel
theorem d_1_9 : decode (xB 1) 9 = .ok (.invokespecial 9, 3) := by decide +kernel
theorem d_1_12 : decode (xB 1) 12 = .ok (.putfield 10, 3) := by decide +kernel
theorem d_1_15 : decode (xB 1) 15 = .ok (.aload_n 0, 1) := by decide +kernel
theorem d_1_16 : decode (xB 1) 16 = .ok (.new 16, 3) := by decide +kernel
theorem d_1_19 : decode (xB 1) 19 = .ok (.dup, 1) := by decide +kernel
theorem d_1_20 : decode (xB 1) 20 = .ok (.invokespecial 18, 3) := by decide +kernel
theorem d_1_23 : decode (xB 1) 23 = .ok (.putfield 19, 3) := by decide +kernel
theorem d_1_26 : decode (xB 1) 26 = .ok (.return_, 1) := by decide +kernel
theorem d_2_0 : decode (xB 2) 0 = .ok (.aload_n 0, 1) := by decide +kernel
theorem d_2_1 : decode (xB 2) 1 = .ok (.invokespecial 3, 3) := by decide +kernel
theorem d_2_4 : decode (xB 2) 4 = .ok (.aload_n 0, 1) := by decide +kernel
theorem d_2_5 : decode (xB 2) 5 = .ok (.sipush 400, 3) := by decide +kernel
theorem d_2_8 : decode (xB 2) 8 = .ok (.newarray .int, 2) := by decide +kernel
theorem d_2_10 : decode (xB 2) 10 = .ok (.putfield 9, 3) := by decide +kernel
theorem d_2_13 : decode (xB 2) 13 = .ok (.return_, 1) := by decide +kernel
theorem d_3_0 : decode (xB 3) 0 = .ok (.aload_n 0, 1) := by decide +kernel
theorem d_3_1 : decode (xB 3) 1 = .ok (.invokespecial 3, 3) := by decide +kernel
theorem d_3_4 : decode (xB 3) 4 = .ok (.aload_n 0, 1) := by decide +kernel
theorem d_3_5 : decode (xB 3) 5 = .ok (.new 9, 3) := by decide +kernel
theorem d_3_8 : decode (xB 3) 8 = .ok (.dup, 1) := by decide +kernel
theorem d_3_9 : decode (xB 3) 9 = .ok (.invokespecial 11, 3) := by decide +kernel
theorem d_3_12 : decode (xB 3) 12 = .ok (.putfield 12, 3) := by decide +kernel
theorem d_3_15 : decode (xB 3) 15 = .ok (.aload_n 0, 1) := by decide +kernel
theorem d_3_16 : decode (xB 3) 16 = .ok (.new 18, 3) := by decide +kernel
theorem d_3_19 : decode (xB 3) 19 = .ok (.dup, 1) := by decide +kernel
theorem d_3_20 : decode (xB 3) 20 = .ok (.invokespecial 20, 3) := by decide +kernel
theorem d_3_23 : decode (xB 3) 23 = .ok (.putfield 21, 3) := by decide +kernel
theorem d_3_26 : decode (xB 3) 26 = .ok (.aload_n 0, 1) := by decide +kernel
theorem d_3_27 : decode (xB 3) 27 = .ok (.bipush 7, 2) := by decide +kernel
theorem d_3_29 : decode (xB 3) 29 = .ok (.anewarray 25, 3) := by decide +kernel
theorem d_3_32 : decode (xB 3) 32 = .ok (.putfield 27, 3) := by decide +kernel
theorem d_3_35 : decode (xB 3) 35 = .ok (.aload_n 0, 1) := by decide +kernel
theorem d_3_36 : decode (xB 3) 36 = .ok (.bipush 6, 2) := by decide +kernel
theorem d_3_38 : decode (xB 3) 38 = .ok (.newarray .int, 2) := by decide +kernel
theorem d_3_40 : decode (xB 3) 40 = .ok (.putfield 31, 3) := by decide +kernel
theorem d_3_43 : decode (xB 3) 43 = .ok (.aload_n 0, 1) := by decide +kernel
theorem d_3_44 : decode (xB 3) 44 = .ok (.iconst 4, 1) := by decide +kernel
theorem d_3_45 : decode (xB 3) 45 = .ok (.newarray .int, 2) := by decide +kernel
theorem d_3_47 : decode (xB 3) 47 = .ok (.putfield 35, 3) := by decide +kernel
theorem d_3_50 : decode (xB 3) 50 = .ok (.aload_n 0, 1) := by decide +kernel
theorem d_3_51 : decode (xB 3) 51 = .ok (.iconst 4, 1) := by decide +kernel
theorem d_3_52 : decode (xB 3) 52 = .ok (.newarray .int, 2) := by decide +kernel
theorem d_3_54 : decode (xB 3) 54 = .ok (.putfield 38, 3) := by decide +kernel
theorem d_3_57 : decode (xB 3) 57 = .ok (.aload_n 0, 1) := by decide +kernel
theorem d_3_58 : decode (xB 3) 58 = .ok (.bipush 6, 2) := by decide +kernel
theorem d_3_60 : decode (xB 3) 60 = .ok (.newarray .int, 2) := by decide +kernel
theorem d_3_62 : decode (xB 3) 62 = .ok (.putfield 41, 3) := by decide +kernel
theorem d_3_65 : decode (xB 3) 65 = .ok (.iconst 0, 1) := by decide +kernel
theorem d_3_66 : decode (xB 3) 66 = .ok (.istore_n 1, 1) := by decide +kernel
theorem d_3_67 : decode (xB 3) 67 = .ok (.iload_n 1, 1) := by decide +kernel
theorem d_3_68 : decode (xB 3) 68 = .ok (.bipush 6, 2) := by decide +kernel
theorem d_3_70 : decode (xB 3) 70 = .ok (.if_icmp .gt 22, 3) := by decide +kernel
theorem d_3_73 : decode (xB 3) 73 = .ok (.aload_n 0, 1) := by decide +kernel
theorem d_3_74 : decode (xB 3) 74 = .ok (.getfield 27, 3) := by decide +kernel
theorem d_3_77 : decode (xB 3) 77 = .ok (.iload_n 1, 1) := by decide +kernel
theorem d_3_78 : decode (xB 3) 78 = .ok (.new 25, 3) := by decide +kernel
theorem d_3_81 : decode (xB 3) 81 = .ok (.dup, 1) := by decide +kernel
theorem d_3_82 : decode (xB 3) 82 = .ok (.invokespecial 44, 3) := by decide +kernel
theorem d_3_85 : decode (xB 3) 85 = .ok (.aastore, 1) := by decide +kernel
theorem d_3_86 : decode (xB 3) 86 = .ok (.iinc 1 1, 3) := by decide +kernel
theorem d_3_89 : decode (xB 3) 89 = .ok (.goto (-22), 3) := by decide +kernel
theorem d_3_92 : decode (xB 3) 92 = .ok (.aload_n 0, 1) := by decide +kernel
theorem d_3_93 : decode (xB 3) 93 = .ok (.iconst (-1), 1) := by decide +kernel
theorem d_3_94 : decode (xB 3) 94 = .ok (.putfield 45, 3) := by decide +kernel
theorem d_3_97 : decode (xB 3) 97 = .ok (.return_, 1) := by decide +kernel
theorem d_4_0 : decode (xB 4) 0 = .ok (.aload_n 0, 1) := by decide +kernel
theorem d_4_1 : decode (xB 4) 1 = .ok (.invokespecial 3, 3) := by decide +kernel
theorem d_4_4 : decode (xB 4) 4 = .ok (.aload_n 0, 1) := by decide +kernel
theorem d_4_5 : decode (xB 4) 5 = .ok (.sipush 400, 3) := by decide +kernel
theorem d_4_8 : decode (xB 4) 8 = .ok (.newarray .int, 2) := by decide +kernel
theorem d_4_10 : decode (xB 4) 10 = .ok (.putfield 9, 3) := by decide +kernel
theorem d_4_13 : decode (xB 4) 13 = .ok (.return_, 1) := by decide +kernel
theorem d_5_0 : decode (xB 5) 0 = .ok (.aload_n 0, 1) := by decide +kernel
theorem d_5_1 : decode (xB 5) 1 = .ok (.invokespecial 3, 3) := by decide +kernel
theorem d_5_4 : decode (xB 5) 4 = .ok (.aload_n 0, 1) := by decide +kernel
theorem d_5_5 : decode (xB 5) 5 = .ok (.bipush 120, 2) := by decide +kernel
theorem d_5_7 : decode (xB 5) 7 = .ok (.newarray .int, 2) := by decide +kernel
theorem d_5_9 : decode (xB 5) 9 = .ok (.putfield 9, 3) := by decide +kernel
theorem d_5_12 : decode (xB 5) 12 = .ok (.aload_n 0, 1) := by decide +kernel
theorem d_5_13 : decode (xB 5) 13 = .ok (.bipush 120, 2) := by decide +kernel
theorem d_5_15 : decode (xB 5) 15 = .ok (.newarray .int, 2) := by decide +kernel
theorem d_5_17 : decode (xB 5) 17 = .ok (.putfield 15, 3) := by decide +kernel
theorem d_5_20 : decode (xB 5) 20 = .ok (.aload_n 0, 1) := by decide +kernel
theorem d_5_21 : decode (xB 5) 21 = .ok (.bipush 120, 2) := by decide +kernel
theorem d_5_23 : decode (xB 5) 23 = .ok (.newarray .int, 2) := by decide +kernel
theorem d_5_25 : decode (xB 5) 25 = .ok (.putfield 18, 3) := by decide +kernel
theorem d_5_28 : decode (xB 5) 28 = .ok (.aload_n 0, 1) := by decide +kernel
theorem d_5_29 : decode (xB 5) 29 = .ok (.bipush 120, 2) := by decide +kernel
theorem d_5_31 : decode (xB 5) 31 = .ok (.newarray .int, 2) := by decide +kernel
theorem d_5_33 : decode (xB 5) 33 = .ok (.putfield 21, 3) := by decide +kernel
theorem d_5_36 : decode (xB 5) 36 = .ok (.aload_n 0, 1) := by decide +kernel
theorem d_5_37 : decode (xB 5) 37 = .ok (.bipush 20, 2) := by decide +kernel
theorem d_5_39 : decode (xB 5) 39 = .ok (.newarray .int, 2) := by decide +kernel
theorem d_5_41 : decode (xB 5) 41 = .ok (.putfield 24, 3) := by decide +kernel
theorem d_5_44 : decode (xB 5) 44 = .ok (.return_, 1) := by decide +kernel
theorem d_6_0 : decode (xB 6) 0 = .ok (.aload_n 0, 1) := by decide +kernel
theorem d_6_1 : decode (xB 6) 1 = .ok (.invokespecial 3, 3) := by decide +kernel
theorem d_6_4 : decode (xB 6) 4 = .ok (.aload_n 0, 1) := by decide +kernel
theorem d_6_5 : decode (xB 6) 5 = .ok (.bipush 6, 2) := by decide +kernel
theorem d_6_7 : decode (xB 6) 7 = .ok (.newarray .int, 2) := by decide +kernel
theorem d_6_9 : decode (xB 6) 9 = .ok (.putfield 9, 3) := by decide +kernel
theorem d_6_12 : decode (xB 6) 12 = .ok (.aload_n 0, 1) := by decide +kernel
theorem d_6_13 : decode (xB 6) 13 = .ok (.bipush 20, 2) := by decide +kernel
theorem d_6_15 : decode (xB 6) 15 = .ok (.newarray .int, 2) := by decide +kernel
theorem d_6_17 : decode (xB 6) 17 = .ok (.putfield 15, 3) := by decide +kernel
theorem d_6_20 : decode (xB 6) 20 = .ok (.return_, 1) := by decide +kernel
theorem d_7_0 : decode (xB 7) 0 = .ok (.aload_n 0, 1) := by decide +kernel
theorem d_7_1 : decode (xB 7) 1 = .ok (.getfield 10, 3) := by decide +kernel
theorem d_7_4 : decode (xB 7) 4 = .ok (.iload_n 1, 1) := by decide +kernel
theorem d_7_5 : decode (xB 7) 5 = .ok (.invokevirtual 23, 3) := by decide +kernel
theorem d_7_8 : decode (xB 7) 8 = .ok (.ireturn, 1) := by decide +kernel
theorem d_8_0 : decode (xB 8) 0 = .ok (.iconst 0, 1) := by decide +kernel
theorem d_8_1 : decode (xB 8) 1 = .ok (.istore_n 2, 1) := by decide +kernel
theorem d_8_2 : decode (xB 8) 2 = .ok (.iload_n 2, 1) := by decide +kernel
theorem d_8_3 : decode (xB 8) 3 = .ok (.iconst 4, 1) := by decide +kernel
theorem d_8_4 : decode (xB 8) 4 = .ok (.if_icmp .ge 17, 3) := by decide +kernel
theorem d_8_7 : decode (xB 8) 7 = .ok (.iload_n 1, 1) := by decide +kernel
theorem d_8_8 : decode (xB 8) 8 = .ok (.iload_n 2, 1) := by decide +kernel
theorem d_8_9 : decode (xB 8) 9 = .ok (.invokestatic 15, 3) := by decide +kernel
theorem d_8_12 : decode (xB 8) 12 = .ok (.ifCond .eq 9, 3) := by decide +kernel
theorem d_8_15 : decode (xB 8) 15 = .ok (.iinc 2 1, 3) := by decide +kernel
theorem d_8_18 : decode (xB 8) 18 = .ok (.goto (-16), 3) := by decide +kernel
theorem d_8_21 : decode (xB 8) 21 = .ok (.aload_n 0, 1) := by decide +kernel
theorem d_8_22 : decode (xB 8) 22 = .ok (.getfield 19, 3) := by decide +kernel
theorem d_8_25 : decode (xB 8) 25 = .ok (.iload_n 2, 1) := by decide +kernel
theorem d_8_26 : decode (xB 8) 26 = .ok (.iadd, 1) := by decide +kernel
theorem d_8_27 : decode (xB 8) 27 = .ok (.sipush 400, 3) := by decide +kernel
theorem d_8_30 : decode (xB 8) 30 = .ok (.if_icmp .le 5, 3) := by decide +kernel
theorem d_8_33 : decode (xB 8) 33 = .ok (.iconst (-1), 1) := by decide +kernel
theorem d_8_34 : decode (xB 8) 34 = .ok (.ireturn, 1) := by decide +kernel
theorem d_8_35 : decode (xB 8) 35 = .ok (.iconst 0, 1) := by decide +kernel
theorem d_8_36 : decode (xB 8) 36 = .ok (.istore_n 3, 1) := by decide +kernel
theorem d_8_37 : decode (xB 8) 37 = .ok (.iload_n 3, 1) := by decide +kernel
theorem d_8_38 : decode (xB 8) 38 = .ok (.iload_n 2, 1) := by decide +kernel
theorem d_8_39 : decode (xB 8) 39 = .ok (.if_icmp .ge 25, 3) := by decide +kernel
theorem d_8_42 : decode (xB 8) 42 = .ok (.aload_n 0, 1) := by decide +kernel
theorem d_8_43 : decode (xB 8) 43 = .ok (.getfield 9, 3) := by decide +kernel
theorem d_8_46 : decode (xB 8) 46 = .ok (.aload_n 0, 1) := by decide +kernel
theorem d_8_47 : decode (xB 8) 47 = .ok (.getfield 19, 3) := by decide +kernel
theorem d_8_50 : decode (xB 8) 50 = .ok (.iload_n 3, 1) := by decide +kernel
theorem d_8_51 : decode (xB 8) 51 = .ok (.iadd, 1) := by decide +kernel
theorem d_8_52 : decode (xB 8) 52 = .ok (.iload_n 1, 1) := by decide +kernel
theorem d_8_53 : decode (xB 8) 53 = .ok (.iload_n 3, 1) := by decide +kernel
theorem d_8_54 : decode (xB 8) 54 = .ok (.invokestatic 15, 3) := by decide +kernel
theorem d_8_57 : decode (xB 8) 57 = .ok (.iastore, 1) := by decide +kernel
theorem d_8_58 : decode (xB 8) 58 = .ok (.iinc 3 1, 3) := by decide +kernel
theorem d_8_61 : decode (xB 8) 61 = .ok (.goto (-24), 3) := by decide +kernel
theorem d_8_64 : decode (xB 8) 64 = .ok (.aload_n 0, 1) := by decide +kernel
theorem d_8_65 : decode (xB 8) 65 = .ok (.dup, 1) := by decide +kernel
theorem d_8_66 : decode (xB 8) 66 = .ok (.getfield 19, 3) := by decide +kernel
theorem d_8_69 : decode (xB 8) 69 = .ok (.iload_n 2, 1) := by decide +kernel
theorem d_8_70 : decode (xB 8) 70 = .ok (.iadd, 1) := by decide +kernel
theorem d_8_71 : decode (xB 8) 71 = .ok (.putfield 19, 3) := by decide +kernel
theorem d_8_74 : decode (xB 8) 74 = .ok (.iload_n 2, 1) := by decide +kernel
theorem d_8_75 : decode (xB 8) 75 = .ok (.ireturn, 1) := by decide +kernel
theorem d_9_0 : decode (xB 9) 0 = .ok (.iload_n 0, 1) := by decide +kernel
theorem d_9_1 : decode (xB 9) 1 = .ok (.bipush 8, 2) := by decide +kernel
theorem d_9_3 : decode (xB 9) 3 = .ok (.iload_n 1, 1) := by decide +kernel
theorem d_9_4 : decode (xB 9) 4 = .ok (.imul, 1) := by decide +kernel
theorem d_9_5 : decode (xB 9) 5 = .ok (.ishr, 1) := by decide +kernel
theorem d_9_6 : decode (xB 9) 6 = .ok (.sipush 255, 3) := by decide +kernel
theorem d_9_9 : decode (xB 9) 9 = .ok (.iand, 1) := by decide +kernel
theorem d_9_10 : decode (xB 9) 10 = .ok (.ireturn, 1) := by decide +kernel
theorem d_10_0 : decode (xB 10) 0 = .ok (.aload_n 0, 1) := by decide +kernel
theorem d_10_1 : decode (xB 10) 1 = .ok (.getfield 10, 3) := by decide +kernel
theorem d_10_4 : decode (xB 10) 4 = .ok (.getfield 27, 3) := by decide +kernel
theorem d_10_7 : decode (xB 10) 7 = .ok (.ireturn, 1) := by decide +kernel
theorem d_11_0 : decode (xB 11) 0 = .ok (.aload_n 0, 1) := by decide +kernel
theorem d_11_1 : decode (xB 11) 1 = .ok (.getfield 10, 3) := by decide +kernel
theorem d_11_4 : decode (xB 11) 4 = .ok (.iconst 0, 1) := by decide +kernel
theorem d_11_5 : decode (xB 11) 5 = .ok (.putfield 27, 3) := by decide +kernel
theorem d_11_8 : decode (xB 11) 8 = .ok (.return_, 1) := by decide +kernel
theorem d_12_0 : decode (xB 12) 0 = .ok (.iload_n 1, 1) := by decide +kernel
theorem d_12_1 : decode (xB 12) 1 = .ok (.iconst 1, 1) := by decide +kernel
theorem d_12_2 : decode (xB 12) 2 = .ok (.if_icmp .lt 20, 3) := by decide +kernel
theorem d_12_5 : decode (xB 12) 5 = .ok (.iload_n 1, 1) := by decide +kernel
theorem d_12_6 : decode (xB 12) 6 = .ok (.bipush 20, 2) := by decide +kernel
theorem d_12_8 : decode (xB 12) 8 = .ok (.if_icmp .gt 14, 3) := by decide +kernel
theorem d_12_11 : decode (xB 12) 11 = .ok (.iload_n 2, 1) := by decide +kernel
theorem d_12_12 : decode (xB 12) 12 = .ok (.iconst 1, 1) := by decide +kernel
theorem d_12_13 : decode (xB 12) 13 = .ok (.if_icmp .lt 9, 3) := by decide +kernel
theorem d_12_16 : decode (xB 12) 16 = .ok (.iload_n 2, 1) := by decide +kernel
theorem d_12_17 : decode (xB 12) 17 = .ok (.bipush 20, 2) := by decide +kernel
theorem d_12_19 : decode (xB 12) 19 = .ok (.if_icmp .le 5, 3) := by decide +kernel
theorem d_12_22 : decode (xB 12) 22 = .ok (.iconst (-1), 1) := by decide +kernel
theorem d_12_23 : decode (xB 12) 23 = .ok (.ireturn, 1) := by decide +kernel
theorem d_12_24 : decode (xB 12) 24 = .ok (.aload_n 0, 1) := by decide +kernel
theorem d_12_25 : decode (xB 12) 25 = .ok (.getfield 19, 3) := by decide +kernel
theorem d_12_28 : decode (xB 12) 28 = .ok (.iload_n 1, 1) := by decide +kernel
theorem d_12_29 : decode (xB 12) 29 = .ok (.iload_n 2, 1) := by decide +kernel
theorem d_12_30 : decode (xB 12) 30 = .ok (.invokevirtual 31, 3) := by decide +kernel
theorem d_12_33 : decode (xB 12) 33 = .ok (.aload_n 0, 1) := by decide +kernel
theorem d_12_34 : decode (xB 12) 34 = .ok (.getfield 19, 3) := by decide +kernel
theorem d_12_37 : decode (xB 12) 37 = .ok (.aload_n 0, 1) := by decide +kernel
theorem d_12_38 : decode (xB 12) 38 = .ok (.getfield 10, 3) := by decide +kernel
theorem d_12_41 : decode (xB 12) 41 = .ok (.invokevirtual 35, 3) := by decide +kernel
theorem d_12_44 : decode (xB 12) 44 = .ok (.aload_n 0, 1) := by decide +kernel
theorem d_12_45 : decode (xB 12) 45 = .ok (.getfield 19, 3) := by decide +kernel
theorem d_12_48 : decode (xB 12) 48 = .ok (.getfield 39, 3) := by decide +kernel
theorem d_12_51 : decode (xB 12) 51 = .ok (.ireturn, 1) := by decide +kernel
theorem d_13_0 : decode (xB 13) 0 = .ok (.aload_n 0, 1) := by decide +kernel
theorem d_13_1 : decode (xB 13) 1 = .ok (.getfield 12, 3) := by decide +kernel
theorem d_13_4 : decode (xB 13) 4 = .ok (.iload_n 1, 1) := by decide +kernel
theorem d_13_5 : decode (xB 13) 5 = .ok (.iload_n 2, 1) := by decide +kernel
theorem d_13_6 : decode (xB 13) 6 = .ok (.invokevirtual 52, 3) := by decide +kernel
theorem d_13_9 : decode (xB 13) 9 = .ok (.aload_n 0, 1) := by decide +kernel
theorem d_13_10 : decode (xB 13) 10 = .ok (.getfield 21, 3) := by decide +kernel
theorem d_13_13 : decode (xB 13) 13 = .ok (.invokevirtual 56, 3) := by decide +kernel
theorem d_13_16 : decode (xB 13) 16 = .ok (.aload_n 0, 1) := by decide +kernel
theorem d_13_17 : decode (xB 13) 17 = .ok (.iconst 0, 1) := by decide +kernel
theorem d_13_18 : decode (xB 13) 18 = .ok (.putfield 59, 3) := by decide +kernel
theorem d_13_21 : decode (xB 13) 21 = .ok (.aload_n 0, 1) := by decide +kernel
theorem d_13_22 : decode (xB 13) 22 = .ok (.iconst 0, 1) := by decide +kernel
theorem d_13_23 : decode (xB 13) 23 = .ok (.putfield 49, 3) := by decide +kernel
theorem d_13_26 : decode (xB 13) 26 = .ok (.aload_n 0, 1) := by decide +kernel
theorem d_13_27 : decode (xB 13) 27 = .ok (.iconst 0, 1) := by decide +kernel
theorem d_13_28 : decode (xB 13) 28 = .ok (.putfield 62, 3) := by decide +kernel
theorem d_13_31 : decode (xB 13) 31 = .ok (.aload_n 0, 1) := by decide +kernel
theorem d_13_32 : decode (xB 13) 32 = .ok (.iconst 0, 1) := by decide +kernel
theorem d_13_33 : decode (xB 13) 33 = .ok (.putfield 65, 3) := by decide +kernel
theorem d_13_36 : decode (xB 13) 36 = .ok (.aload_n 0, 1) := by decide +kernel
theorem d_13_37 : decode (xB 13) 37 = .ok (.iconst (-1), 1) := by decide +kernel
theorem d_13_38 : decode (xB 13) 38 = .ok (.putfield 45, 3) := by decide +kernel
theorem d_13_41 : decode (xB 13) 41 = .ok (.aload_n 0, 1) := by decide +kernel
theorem d_13_42 : decode (xB 13) 42 = .ok (.iconst 0, 1) := by decide +kernel
theorem d_13_43 : decode (xB 13) 43 = .ok (.putfield 68, 3) := by decide +kernel
theorem d_13_46 : decode (xB 13) 46 = .ok (.aload_n 0, 1) := by decide +kernel
theorem d_13_47 : decode (xB 13) 47 = .ok (.iconst 0, 1) := by decide +kernel
theorem d_13_48 : decode (xB 13) 48 = .ok (.putfield 71, 3) := by decide +kernel
theorem d_13_51 : decode (xB 13) 51 = .ok (.aload_n 0, 1) := by decide +kernel
theorem d_13_52 : decode (xB 13) 52 = .ok (.iconst 0, 1) := by decide +kernel
theorem d_13_53 : decode (xB 13) 53 = .ok (.putfield 74, 3) := by decide +kernel
theorem d_13_56 : decode (xB 13) 56 = .ok (.aload_n 0, 1) := by decide +kernel
theorem d_13_57 : decode (xB 13) 57 = .ok (.invokevirtual 77, 3) := by decide +kernel
theorem d_13_60 : decode (xB 13) 60 = .ok (.iload_n 1, 1) := by decide +kernel
theorem d_13_61 : decode (xB 13) 61 = .ok (.iload_n 2, 1) := by decide +kernel
theorem d_13_62 : decode (xB 13) 62 = .ok (.invokevirtual 81, 3) := by decide +kernel
theorem d_13_65 : decode (xB 13) 65 = .ok (.return_, 1) := by decide +kernel
theorem d_14_0 : decode (xB 14) 0 = .ok (.aload_n 0, 1) := by decide +kernel
theorem d_14_1 : decode (xB 14) 1 = .ok (.iload_n 1, 1) := by decide +kernel
theorem d_14_2 : decode (xB 14) 2 = .ok (.putfield 15, 3) := by decide +kernel
theorem d_14_5 : decode (xB 14) 5 = .ok (.aload_n 0, 1) := by decide +kernel
theorem d_14_6 : decode (xB 14) 6 = .ok (.iload_n 2, 1) := by decide +kernel
theorem d_14_7 : decode (xB 14) 7 = .ok (.putfield 19, 3) := by decide +kernel
theorem d_14_10 : decode (xB 14) 10 = .ok (.aload_n 0, 1) := by decide +kernel
theorem d_14_11 : decode (xB 14) 11 = .ok (.getfield 9, 3) := by decide +kernel
theorem d_14_14 : decode (xB 14) 14 = .ok (.sipush 255, 3) := by decide +kernel
theorem d_14_17 : decode (xB 14) 17 = .ok (.invokestatic 22, 3) := by decide +kernel
theorem d_14_20 : decode (xB 14) 20 = .ok (.return_, 1) := by decide +kernel
theorem d_15_0 : decode (xB 15) 0 = .ok (.iconst 0, 1) := by decide +kernel
theorem d_15_1 : decode (xB 15) 1 = .ok (.istore_n 2, 1) := by decide +kernel
theorem d_15_2 : decode (xB 15) 2 = .ok (.aload_n 0, 1) := by decide +kernel
theorem d_15_3 : decode (xB 15) 3 = .ok (.arraylength, 1) := by decide +kernel
theorem d_15_4 : decode (xB 15) 4 = .ok (.istore_n 3, 1) := by decide +kernel
theorem d_15_5 : decode (xB 15) 5 = .ok (.iload_n 2, 1) := by decide +kernel
theorem d_15_6 : decode (xB 15) 6 = .ok (.iload_n 3, 1) := by decide +kernel
theorem d_15_7 : decode (xB 15) 7 = .ok (.if_icmp .ge 13, 3) := by decide +kernel
theorem d_15_10 : decode (xB 15) 10 = .ok (.aload_n 0, 1) := by decide +kernel
theorem d_15_11 : decode (xB 15) 11 = .ok (.iload_n 2, 1) := by decide +kernel
theorem d_15_12 : decode (xB 15) 12 = .ok (.iload_n 1, 1) := by decide +kernel
theorem d_15_13 : decode (xB 15) 13 = .ok (.iastore, 1) := by decide +kernel
theorem d_15_14 : decode (xB 15) 14 = .ok (.iinc 2 1, 3) := by decide +kernel
theorem d_15_17 : decode (xB 15) 17 = .ok (.goto (-12), 3) := by decide +kernel
theorem d_15_20 : decode (xB 15) 20 = .ok (.return_, 1) := by decide +kernel
theorem d_16_0 : decode (xB 16) 0 = .ok (.aload_n 0, 1) := by decide +kernel
theorem d_16_1 : decode (xB 16) 1 = .ok (.iconst 0, 1) := by decide +kernel
theorem d_16_2 : decode (xB 16) 2 = .ok (.putfield 27, 3) := by decide +kernel
theorem d_16_5 : decode (xB 16) 5 = .ok (.aload_n 0, 1) := by decide +kernel
theorem d_16_6 : decode (xB 16) 6 = .ok (.iconst 0, 1) := by decide +kernel
theorem d_16_7 : decode (xB 16) 7 = .ok (.putfield 31, 3) := by decide +kernel
theorem d_16_10 : decode (xB 16) 10 = .ok (.aload_n 0, 1) := by decide +kernel
theorem d_16_11 : decode (xB 16) 11 = .ok (.iconst 0, 1) := by decide +kernel
theorem d_16_12 : decode (xB 16) 12 = .ok (.putfield 34, 3) := by decide +kernel
theorem d_16_15 : decode (xB 16) 15 = .ok (.aload_n 0, 1) := by decide +kernel
theorem d_16_16 : decode (xB 16) 16 = .ok (.aload_n 0, 1) := by decide +kernel
theorem d_16_17 : decode (xB 16) 17 = .ok (.getfield 38, 3) := by decide +kernel
theorem d_16_20 : decode (xB 16) 20 = .ok (.putfield 41, 3) := by decide +kernel
theorem d_16_23 : decode (xB 16) 23 = .ok (.aload_n 0, 1) := by decide +kernel
theorem d_16_24 : decode (xB 16) 24 = .ok (.aload_n 0, 1) := by decide +kernel
theorem d_16_25 : decode (xB 16) 25 = .ok (.getfield 44, 3) := by decide +kernel
theorem d_16_28 : decode (xB 16) 28 = .ok (.putfield 47, 3) := by decide +kernel
theorem d_16_31 : decode (xB 16) 31 = .ok (.return_, 1) := by decide +kernel
theorem d_17_0 : decode (xB 17) 0 = .ok (.aload_n 0, 1) := by decide +kernel
theorem d_17_1 : decode (xB 17) 1 = .ok (.getfield 27, 3) := by decide +kernel
theorem d_17_4 : decode (xB 17) 4 = .ok (.aload_n 0, 1) := by decide +kernel
theorem d_17_5 : decode (xB 17) 5 = .ok (.getfield 49, 3) := by decide +kernel
theorem d_17_8 : decode (xB 17) 8 = .ok (.aaload, 1) := by decide +kernel
theorem d_17_9 : decode (xB 17) 9 = .ok (.areturn, 1) := by decide +kernel
theorem d_18_0 : decode (xB 18) 0 = .ok (.aload_n 0, 1) := by decide +kernel
theorem d_18_1 : decode (xB 18) 1 = .ok (.getfield 9, 3) := by decide +kernel
theorem d_18_4 : decode (xB 18) 4 = .ok (.iconst 0, 1) := by decide +kernel
theorem d_18_5 : decode (xB 18) 5 = .ok (.invokestatic 18, 3) := by decide +kernel
theorem d_18_8 : decode (xB 18) 8 = .ok (.aload_n 0, 1) := by decide +kernel
theorem d_18_9 : decode (xB 18) 9 = .ok (.getfield 9, 3) := by decide +kernel
theorem d_18_12 : decode (xB 18) 12 = .ok (.iconst 0, 1) := by decide +kernel
theorem d_18_13 : decode (xB 18) 13 = .ok (.iconst 1, 1) := by decide +kernel
theorem d_18_14 : decode (xB 18) 14 = .ok (.iastore, 1) := by decide +kernel
theorem d_18_15 : decode (xB 18) 15 = .ok (.aload_n 0, 1) := by decide +kernel
theorem d_18_16 : decode (xB 18) 16 = .ok (.getfield 9, 3) := by decide +kernel
theorem d_18_19 : decode (xB 18) 19 = .ok (.iconst 3, 1) := by decide +kernel
theorem d_18_20 : decode (xB 18) 20 = .ok (.iconst 1, 1) := by decide +kernel
theorem d_18_21 : decode (xB 18) 21 = .ok (.iastore, 1) := by decide +kernel
theorem d_18_22 : decode (xB 18) 22 = .ok (.aload_n 0, 1) := by decide +kernel
theorem d_18_23 : decode (xB 18) 23 = .ok (.iconst 0, 1) := by decide +kernel
theorem d_18_24 : decode (xB 18) 24 = .ok (.putfield 24, 3) := by decide +kernel
theorem d_18_27 : decode (xB 18) 27 = .ok (.iconst 0, 1) := by decide +kernel
theorem d_18_28 : decode (xB 18) 28 = .ok (.istore_n 3, 1) := by decide +kernel
theorem d_18_29 : decode (xB 18) 29 = .ok (.iload_n 3, 1) := by decide +kernel
theorem d_18_30 : decode (xB 18) 30 = .ok (.bipush 20, 2) := by decide +kernel
theorem d_18_32 : decode (xB 18) 32 = .ok (.if_icmp .ge 29, 3) := by decide +kernel
theorem d_18_35 : decode (xB 18) 35 = .ok (.aload_n 0, 1) := by decide +kernel
theorem d_18_36 : decode (xB 18) 36 = .ok (.getfield 15, 3) := by decide +kernel
theorem d_18_39 : decode (xB 18) 39 = .ok (.iload_n 3, 1) := by decide +kernel
theorem d_18_40 : decode (xB 18) 40 = .ok (.iload_n 3, 1) := by decide +kernel
theorem d_18_41 : decode (xB 18) 41 = .ok (.iload_n 2, 1) := by decide +kernel
theorem d_18_42 : decode (xB 18) 42 = .ok (.if_icmp .ge 11, 3) := by decide +kernel
theorem d_18_45 : decode (xB 18) 45 = .ok (.iconst 1, 1) := by decide +kernel
theorem d_18_46 : decode (xB 18) 46 = .ok (.iload_n 1, 1) := by decide +kernel
theorem d_18_47 : decode (xB 18) 47 = .ok (.ishl, 1) := by decide +kernel
theorem d_18_48 : decode (xB 18) 48 = .ok (.iconst 1, 1) := by decide +kernel
theorem d_18_49 : decode (xB 18) 49 = .ok (.isub, 1) := by decide +kernel
theorem d_18_50 : decode (xB 18) 50 = .ok (.goto 4, 3) := by decide +kernel
theorem d_18_53 : decode (xB 18) 53 = .ok (.iconst 0, 1) := by decide +kernel
theorem d_18_54 : decode (xB 18) 54 = .ok (.iastore, 1) := by decide +kernel
theorem d_18_55 : decode (xB 18) 55 = .ok (.iinc 3 1, 3) := by decide +kernel
theorem d_18_58 : decode (xB 18) 58 = .ok (.goto (-29), 3) := by decide +kernel
theorem d_18_61 : decode (xB 18) 61 = .ok (.return_, 1) := by decide +kernel
theorem d_19_0 : decode (xB 19) 0 = .ok (.iconst 0, 1) := by decide +kernel
theorem d_19_1 : decode (xB 19) 1 = .ok (.istore_n 2, 1) := by decide +kernel
theorem d_19_2 : decode (xB 19) 2 = .ok (.iload_n 2, 1) := by decide +kernel
theorem d_19_3 : decode (xB 19) 3 = .ok (.aload_n 1, 1) := by decide +kernel
theorem d_19_4 : decode (xB 19) 4 = .ok (.getfield 82, 3) := by decide +kernel
theorem d_19_7 : decode (xB 19) 7 = .ok (.if_icmp .ge 89, 3) := by decide +kernel
theorem d_19_10 : decode (xB 19) 10 = .ok (.aload_n 0, 1) := by decide +kernel
theorem d_19_11 : decode (xB 19) 11 = .ok (.getfield 65, 3) := by decide +kernel
theorem d_19_14 : decode (xB 19) 14 = .ok (.ifCond .ne 82, 3) := by decide +kernel
theorem d_19_17 : decode (xB 19) 17 = .ok (.aload_n 1, 1) := by decide +kernel
theorem d_19_18 : decode (xB 19) 18 = .ok (.getfield 87, 3) := by decide +kernel
theorem d_19_21 : decode (xB 19) 21 = .ok (.iload_n 2, 1) := by decide +kernel
theorem d_19_22 : decode (xB 19) 22 = .ok (.iaload, 1) := by decide +kernel
theorem d_19_23 : decode (xB 19) 23 = .ok (.istore_n 3, 1) := by decide +kernel
theorem d_19_24 : decode (xB 19) 24 = .ok (.aload_n 1, 1) := by decide +kernel
theorem d_19_25 : decode (xB 19) 25 = .ok (.iload_n 2, 1) := by decide +kernel
theorem d_19_26 : decode (xB 19) 26 = .ok (.invokevirtual 90, 3) := by decide +kernel
theorem d_19_29 : decode (xB 19) 29 = .ok (.istore 4, 2) := by decide +kernel
theorem d_19_31 : decode (xB 19) 31 = .ok (.iload_n 3, 1) := by decide +kernel
theorem d_19_32 : decode (xB 19) 32 = .ok (.invokestatic 94, 3) := by decide +kernel
theorem d_19_35 : decode (xB 19) 35 = .ok (.ifCond .eq 12, 3) := by decide +kernel
theorem d_19_38 : decode (xB 19) 38 = .ok (.aload_n 0, 1) := by decide +kernel
theorem d_19_39 : decode (xB 19) 39 = .ok (.iconst 1, 1) := by decide +kernel
theorem d_19_40 : decode (xB 19) 40 = .ok (.iload_n 2, 1) := by decide +kernel
theorem d_19_41 : decode (xB 19) 41 = .ok (.invokevirtual 98, 3) := by decide +kernel
theorem d_19_44 : decode (xB 19) 44 = .ok (.goto 40, 3) := by decide +kernel
theorem d_19_47 : decode (xB 19) 47 = .ok (.iload_n 3, 1) := by decide +kernel
theorem d_19_48 : decode (xB 19) 48 = .ok (.invokestatic 101, 3) := by decide +kernel
theorem d_19_51 : decode (xB 19) 51 = .ok (.ifCond .eq 14, 3) := by decide +kernel
theorem d_19_54 : decode (xB 19) 54 = .ok (.aload_n 0, 1) := by decide +kernel
theorem d_19_55 : decode (xB 19) 55 = .ok (.aload_n 1, 1) := by decide +kernel
theorem d_19_56 : decode (xB 19) 56 = .ok (.iload_n 2, 1) := by decide +kernel
theorem d_19_57 : decode (xB 19) 57 = .ok (.iload 4, 2) := by decide +kernel
theorem d_19_59 : decode (xB 19) 59 = .ok (.invokevirtual 104, 3) := by decide +kernel
theorem d_19_62 : decode (xB 19) 62 = .ok (.goto 22, 3) := by decide +kernel
theorem d_19_65 : decode (xB 19) 65 = .ok (.iload_n 3, 1) := by decide +kernel
theorem d_19_66 : decode (xB 19) 66 = .ok (.invokestatic 108, 3) := by decide +kernel
theorem d_19_69 : decode (xB 19) 69 = .ok (.ifCond .eq 15, 3) := by decide +kernel
theorem d_19_72 : decode (xB 19) 72 = .ok (.aload_n 0, 1) := by decide +kernel
theorem d_19_73 : decode (xB 19) 73 = .ok (.aload_n 1, 1) := by decide +kernel
theorem d_19_74 : decode (xB 19) 74 = .ok (.iload_n 2, 1) := by decide +kernel
theorem d_19_75 : decode (xB 19) 75 = .ok (.iload 4, 2) := by decide +kernel
theorem d_19_77 : decode (xB 19) 77 = .ok (.invokevirtual 111, 3) := by decide +kernel
theorem d_19_80 : decode (xB 19) 80 = .ok (.iload_n 2, 1) := by decide +kernel
theorem d_19_81 : decode (xB 19) 81 = .ok (.invokevirtual 115, 3) := by decide +kernel
theorem d_19_84 : decode (xB 19) 84 = .ok (.iload 4, 2) := by decide +kernel
theorem d_19_86 : decode (xB 19) 86 = .ok (.iload_n 2, 1) := by decide +kernel
theorem d_19_87 : decode (xB 19) 87 = .ok (.iconst 1, 1) := by decide +kernel
theorem d_19_88 : decode (xB 19) 88 = .ok (.iadd, 1) := by decide +kernel
theorem d_19_89 : decode (xB 19) 89 = .ok (.invokestatic 118, 3) := by decide +kernel
theorem d_19_92 : decode (xB 19) 92 = .ok (.istore_n 2, 1) := by decide +kernel
theorem d_19_93 : decode (xB 19) 93 = .ok (.goto (-91), 3) := by decide +kernel
theorem d_19_96 : decode (xB 19) 96 = .ok (.aload_n 0, 1) := by decide +kernel
theorem d_19_97 : decode (xB 19) 97 = .ok (.getfield 65, 3) := by decide +kernel
theorem d_19_100 : decode (xB 19) 100 = .ok (.ifCond .ne 15, 3) := by decide +kernel
theorem d_19_103 : decode (xB 19) 103 = .ok (.aload_n 0, 1) := by decide +kernel
theorem d_19_104 : decode (xB 19) 104 = .ok (.aload_n 0, 1) := by decide +kernel
theorem d_19_105 : decode (xB 19) 105 = .ok (.invokevirtual 123, 3) := by decide +kernel
theorem d_19_108 : decode (xB 19) 108 = .ok (.aload_n 1, 1) := by decide +kernel
theorem d_19_109 : decode (xB 19) 109 = .ok (.getfield 82, 3) := by decide +kernel
theorem d_19_112 : decode (xB 19) 112 = .ok (.invokevirtual 98, 3) := by decide +kernel
theorem d_19_115 : decode (xB 19) 115 = .ok (.return_, 1) := by decide +kernel
theorem d_20_0 : decode (xB 20) 0 = .ok (.iload_n 1, 1) := by decide +kernel
theorem d_20_1 : decode (xB 20) 1 = .ok (.iconst 1, 1) := by decide +kernel
theorem d_20_2 : decode (xB 20) 2 = .ok (.iadd, 1) := by decide +kernel
theorem d_20_3 : decode (xB 20) 3 = .ok (.istore_n 2, 1) := by decide +kernel
theorem d_20_4 : decode (xB 20) 4 = .ok (.aload_n 0, 1) := by decide +kernel
theorem d_20_5 : decode (xB 20) 5 = .ok (.getfield 9, 3) := by decide +kernel
theorem d_20_8 : decode (xB 20) 8 = .ok (.iload_n 1, 1) := by decide +kernel
theorem d_20_9 : decode (xB 20) 9 = .ok (.iaload, 1) := by decide +kernel
theorem d_20_10 : decode (xB 20) 10 = .ok (.bipush 37, 2) := by decide +kernel
theorem d_20_12 : decode (xB 20) 12 = .ok (.if_icmp .ne 39, 3) := by decide +kernel
theorem d_20_15 : decode (xB 20) 15 = .ok (.iload_n 2, 1) := by decide +kernel
theorem d_20_16 : decode (xB 20) 16 = .ok (.aload_n 0, 1) := by decide +kernel
theorem d_20_17 : decode (xB 20) 17 = .ok (.getfield 19, 3) := by decide +kernel
theorem d_20_20 : decode (xB 20) 20 = .ok (.if_icmp .ge 69, 3) := by decide +kernel
theorem d_20_23 : decode (xB 20) 23 = .ok (.aload_n 0, 1) := by decide +kernel
theorem d_20_24 : decode (xB 20) 24 = .ok (.getfield 9, 3) := by decide +kernel
theorem d_20_27 : decode (xB 20) 27 = .ok (.iload_n 2, 1) := by decide +kernel
theorem d_20_28 : decode (xB 20) 28 = .ok (.iaload, 1) := by decide +kernel
theorem d_20_29 : decode (xB 20) 29 = .ok (.bipush 10, 2) := by decide +kernel
theorem d_20_31 : decode (xB 20) 31 = .ok (.if_icmp .eq 58, 3) := by decide +kernel
theorem d_20_34 : decode (xB 20) 34 = .ok (.aload_n 0, 1) := by decide +kernel
theorem d_20_35 : decode (xB 20) 35 = .ok (.getfield 9, 3) := by decide +kernel
theorem d_20_38 : decode (xB 20) 38 = .ok (.iload_n 2, 1) := by decide +kernel
theorem d_20_39 : decode (xB 20) 39 = .ok (.iaload, 1) := by decide +kernel
theorem d_20_40 : decode (xB 20) 40 = .ok (.bipush 13, 2) := by decide +kernel
theorem d_20_42 : decode (xB 20) 42 = .ok (.if_icmp .eq 47, 3) := by decide +kernel
theorem d_20_45 : decode (xB 20) 45 = .ok (.iinc 2 1, 3) := by decide +kernel
theorem d_20_48 : decode (xB 20) 48 = .ok (.goto (-33), 3) := by decide +kernel
theorem d_20_51 : decode (xB 20) 51 = .ok (.aload_n 0, 1) := by decide +kernel
theorem d_20_52 : decode (xB 20) 52 = .ok (.getfield 9, 3) := by decide +kernel
theorem d_20_55 : decode (xB 20) 55 = .ok (.iload_n 1, 1) := by decide +kernel
theorem d_20_56 : decode (xB 20) 56 = .ok (.iaload, 1) := by decide +kernel
theorem d_20_57 : decode (xB 20) 57 = .ok (.invokestatic 23, 3) := by decide +kernel
theorem d_20_60 : decode (xB 20) 60 = .ok (.ifCond .eq 29, 3) := by decide +kernel
theorem d_20_63 : decode (xB 20) 63 = .ok (.iload_n 2, 1) := by decide +kernel
theorem d_20_64 : decode (xB 20) 64 = .ok (.aload_n 0, 1) := by decide +kernel
theorem d_20_65 : decode (xB 20) 65 = .ok (.getfield 19, 3) := by decide +kernel
theorem d_20_68 : decode (xB 20) 68 = .ok (.if_icmp .ge 21, 3) := by decide +kernel
theorem d_20_71 : decode (xB 20) 71 = .ok (.aload_n 0, 1) := by decide +kernel
theorem d_20_72 : decode (xB 20) 72 = .ok (.getfield 9, 3) := by decide +kernel
theorem d_20_75 : decode (xB 20) 75 = .ok (.iload_n 2, 1) := by decide +kernel
theorem d_20_76 : decode (xB 20) 76 = .ok (.iaload, 1) := by decide +kernel
theorem d_20_77 : decode (xB 20) 77 = .ok (.invokestatic 23, 3) := by decide +kernel
theorem d_20_80 : decode (xB 20) 80 = .ok (.ifCond .eq 9, 3) := by decide +kernel
theorem d_20_83 : decode (xB 20) 83 = .ok (.iinc 2 1, 3) := by decide +kernel
theorem d_20_86 : decode (xB 20) 86 = .ok (.goto (-23), 3) := by decide +kernel
theorem d_20_89 : decode (xB 20) 89 = .ok (.iload_n 2, 1) := by decide +kernel
theorem d_20_90 : decode (xB 20) 90 = .ok (.ireturn, 1) := by decide +kernel
theorem d_21_0 : decode (xB 21) 0 = .ok (.iload_n 0, 1) := by decide +kernel
theorem d_21_1 : decode (xB 21) 1 = .ok (.bipush 37, 2) := by decide +kernel
theorem d_21_3 : decode (xB 21) 3 = .ok (.if_icmp .eq 21, 3) := by decide +kernel
theorem d_21_6 : decode (xB 21) 6 = .ok (.iload_n 0, 1) := by decide +kernel
theorem d_21_7 : decode (xB 21) 7 = .ok (.invokestatic 27, 3) := by decide +kernel
theorem d_21_10 : decode (xB 21) 10 = .ok (.ifCond .ne 14, 3) := by decide +kernel
theorem d_21_13 : decode (xB 21) 13 = .ok (.iload_n 0, 1) := by decide +kernel
theorem d_21_14 : decode (xB 21) 14 = .ok (.invokestatic 30, 3) := by decide +kernel
theorem d_21_17 : decode (xB 21) 17 = .ok (.ifCond .ne 7, 3) := by decide +kernel
theorem d_21_20 : decode (xB 21) 20 = .ok (.iconst 1, 1) := by decide +kernel
theorem d_21_21 : decode (xB 21) 21 = .ok (.goto 4, 3) := by decide +kernel
theorem d_21_24 : decode (xB 21) 24 = .ok (.iconst 0, 1) := by decide +kernel
theorem d_21_25 : decode (xB 21) 25 = .ok (.ireturn, 1) := by decide +kernel
theorem d_22_0 : decode (xB 22) 0 = .ok (.iload_n 0, 1) := by decide +kernel
theorem d_22_1 : decode (xB 22) 1 = .ok (.bipush 9, 2) := by decide +kernel
theorem d_22_3 : decode (xB 22) 3 = .ok (.if_icmp .eq 27, 3) := by decide +kernel
theorem d_22_6 : decode (xB 22) 6 = .ok (.iload_n 0, 1) := by decide +kernel
theorem d_22_7 : decode (xB 22) 7 = .ok (.bipush 10, 2) := by decide +kernel
theorem d_22_9 : decode (xB 22) 9 = .ok (.if_icmp .eq 21, 3) := by decide +kernel
theorem d_22_12 : decode (xB 22) 12 = .ok (.iload_n 0, 1) := by decide +kernel
theorem d_22_13 : decode (xB 22) 13 = .ok (.bipush 12, 2) := by decide +kernel
theorem d_22_15 : decode (xB 22) 15 = .ok (.if_icmp .eq 15, 3) := by decide +kernel
theorem d_22_18 : decode (xB 22) 18 = .ok (.iload_n 0, 1) := by decide +kernel
theorem d_22_19 : decode (xB 22) 19 = .ok (.bipush 13, 2) := by decide +kernel
theorem d_22_21 : decode (xB 22) 21 = .ok (.if_icmp .eq 9, 3) := by decide +kernel
theorem d_22_24 : decode (xB 22) 24 = .ok (.iload_n 0, 1) := by decide +kernel
theorem d_22_25 : decode (xB 22) 25 = .ok (.bipush 32, 2) := by decide +kernel
theorem d_22_27 : decode (xB 22) 27 = .ok (.if_icmp .ne 7, 3) := by decide +kernel
theorem d_22_30 : decode (xB 22) 30 = .ok (.iconst 1, 1) := by decide +kernel
theorem d_22_31 : decode (xB 22) 31 = .ok (.goto 4, 3) := by decide +kernel
theorem d_22_34 : decode (xB 22) 34 = .ok (.iconst 0, 1) := by decide +kernel
theorem d_22_35 : decode (xB 22) 35 = .ok (.ireturn, 1) := by decide +kernel
theorem d_23_0 : decode (xB 23) 0 = .ok (.iload_n 0, 1) := by decide +kernel
theorem d_23_1 : decode (xB 23) 1 = .ok (.lookupswitch 85 #[(40, 83), (41, 83), (47, 83), (60, 83), (62, 83), (91, 83), (93, 83), (123, 83), (125, 83)], 83) := by decide +kernel
theorem d_23_84 : decode (xB 23) 84 = .ok (.iconst 1, 1) := by decide +kernel
theorem d_23_85 : decode (xB 23) 85 = .ok (.ireturn, 1) := by decide +kernel
theorem d_23_86 : decode (xB 23) 86 = .ok (.iconst 0, 1) := by decide +kernel
theorem d_23_87 : decode (xB 23) 87 = .ok (.ireturn, 1) := by decide +kernel
theorem d_24_0 : decode (xB 24) 0 = .ok (.iload_n 1, 1) := by decide +kernel
theorem d_24_1 : decode (xB 24) 1 = .ok (.ifCond .eq 13, 3) := by decide +kernel
theorem d_24_4 : decode (xB 24) 4 = .ok (.aload_n 0, 1) := by decide +kernel
theorem d_24_5 : decode (xB 24) 5 = .ok (.iload_n 1, 1) := by decide +kernel
theorem d_24_6 : decode (xB 24) 6 = .ok (.putfield 65, 3) := by decide +kernel
theorem d_24_9 : decode (xB 24) 9 = .ok (.aload_n 0, 1) := by decide +kernel
theorem d_24_10 : decode (xB 24) 10 = .ok (.iload_n 2, 1) := by decide +kernel
theorem d_24_11 : decode (xB 24) 11 = .ok (.putfield 45, 3) := by decide +kernel
theorem d_24_14 : decode (xB 24) 14 = .ok (.return_, 1) := by decide +kernel
theorem d_25_0 : decode (xB 25) 0 = .ok (.iload_n 0, 1) := by decide +kernel
theorem d_25_1 : decode (xB 25) 1 = .ok (.invokestatic 33, 3) := by decide +kernel
theorem d_25_4 : decode (xB 25) 4 = .ok (.ifCond .ne 10, 3) := by decide +kernel
theorem d_25_7 : decode (xB 25) 7 = .ok (.iload_n 0, 1) := by decide +kernel
theorem d_25_8 : decode (xB 25) 8 = .ok (.invokestatic 36, 3) := by decide +kernel
theorem d_25_11 : decode (xB 25) 11 = .ok (.ifCond .eq 7, 3) := by decide +kernel
theorem d_25_14 : decode (xB 25) 14 = .ok (.iconst 1, 1) := by decide +kernel
theorem d_25_15 : decode (xB 25) 15 = .ok (.goto 4, 3) := by decide +kernel
theorem d_25_18 : decode (xB 25) 18 = .ok (.iconst 0, 1) := by decide +kernel
theorem d_25_19 : decode (xB 25) 19 = .ok (.ireturn, 1) := by decide +kernel
theorem d_26_0 : decode (xB 26) 0 = .ok (.iload_n 0, 1) := by decide +kernel
theorem d_26_1 : decode (xB 26) 1 = .ok (.bipush 48, 2) := by decide +kernel
theorem d_26_3 : decode (xB 26) 3 = .ok (.if_icmp .lt 13, 3) := by decide +kernel
theorem d_26_6 : decode (xB 26) 6 = .ok (.iload_n 0, 1) := by decide +kernel
theorem d_26_7 : decode (xB 26) 7 = .ok (.bipush 57, 2) := by decide +kernel
theorem d_26_9 : decode (xB 26) 9 = .ok (.if_icmp .gt 7, 3) := by decide +kernel
theorem d_26_12 : decode (xB 26) 12 = .ok (.iconst 1, 1) := by decide +kernel
theorem d_26_13 : decode (xB 26) 13 = .ok (.goto 4, 3) := by decide +kernel
theorem d_26_16 : decode (xB 26) 16 = .ok (.iconst 0, 1) := by decide +kernel
theorem d_26_17 : decode (xB 26) 17 = .ok (.ireturn, 1) := by decide +kernel
theorem d_27_0 : decode (xB 27) 0 = .ok (.iload_n 0, 1) := by decide +kernel
theorem d_27_1 : decode (xB 27) 1 = .ok (.bipush 43, 2) := by decide +kernel
theorem d_27_3 : decode (xB 27) 3 = .ok (.if_icmp .eq 9, 3) := by decide +kernel
theorem d_27_6 : decode (xB 27) 6 = .ok (.iload_n 0, 1) := by decide +kernel
theorem d_27_7 : decode (xB 27) 7 = .ok (.bipush 45, 2) := by decide +kernel
theorem d_27_9 : decode (xB 27) 9 = .ok (.if_icmp .ne 7, 3) := by decide +kernel
theorem d_27_12 : decode (xB 27) 12 = .ok (.iconst 1, 1) := by decide +kernel
theorem d_27_13 : decode (xB 27) 13 = .ok (.goto 4, 3) := by decide +kernel
theorem d_27_16 : decode (xB 27) 16 = .ok (.iconst 0, 1) := by decide +kernel
theorem d_27_17 : decode (xB 27) 17 = .ok (.ireturn, 1) := by decide +kernel
theorem d_28_0 : decode (xB 28) 0 = .ok (.aload_n 1, 1) := by decide +kernel
theorem d_28_1 : decode (xB 28) 1 = .ok (.iload_n 2, 1) := by decide +kernel
theorem d_28_2 : decode (xB 28) 2 = .ok (.iload_n 3, 1) := by decide +kernel
theorem d_28_3 : decode (xB 28) 3 = .ok (.invokevirtual 131, 3) := by decide +kernel
theorem d_28_6 : decode (xB 28) 6 = .ok (.ifCond .ne 10, 3) := by decide +kernel
theorem d_28_9 : decode (xB 28) 9 = .ok (.aload_n 0, 1) := by decide +kernel
theorem d_28_10 : decode (xB 28) 10 = .ok (.iconst 1, 1) := by decide +kernel
theorem d_28_11 : decode (xB 28) 11 = .ok (.iload_n 2, 1) := by decide +kernel
theorem d_28_12 : decode (xB 28) 12 = .ok (.invokevirtual 98, 3) := by decide +kernel
theorem d_28_15 : decode (xB 28) 15 = .ok (.return_, 1) := by decide +kernel
theorem d_28_16 : decode (xB 28) 16 = .ok (.aload_n 0, 1) := by decide +kernel
theorem d_28_17 : decode (xB 28) 17 = .ok (.getfield 59, 3) := by decide +kernel
theorem d_28_20 : decode (xB 28) 20 = .ok (.bipush 6, 2) := by decide +kernel
theorem d_28_22 : decode (xB 28) 22 = .ok (.if_icmp .ge 18, 3) := by decide +kernel
theorem d_28_25 : decode (xB 28) 25 = .ok (.aload_n 0, 1) := by decide +kernel
theorem d_28_26 : decode (xB 28) 26 = .ok (.getfield 31, 3) := by decide +kernel
theorem d_28_29 : decode (xB 28) 29 = .ok (.aload_n 0, 1) := by decide +kernel
theorem d_28_30 : decode (xB 28) 30 = .ok (.getfield 59, 3) := by decide +kernel
theorem d_28_33 : decode (xB 28) 33 = .ok (.aload_n 1, 1) := by decide +kernel
theorem d_28_34 : decode (xB 28) 34 = .ok (.iload_n 2, 1) := by decide +kernel
theorem d_28_35 : decode (xB 28) 35 = .ok (.iload_n 3, 1) := by decide +kernel
theorem d_28_36 : decode (xB 28) 36 = .ok (.invokevirtual 135, 3) := by decide +kernel
theorem d_28_39 : decode (xB 28) 39 = .ok (.iastore, 1) := by decide +kernel
theorem d_28_40 : decode (xB 28) 40 = .ok (.aload_n 0, 1) := by decide +kernel
theorem d_28_41 : decode (xB 28) 41 = .ok (.dup, 1) := by decide +kernel
theorem d_28_42 : decode (xB 28) 42 = .ok (.getfield 59, 3) := by decide +kernel
theorem d_28_45 : decode (xB 28) 45 = .ok (.iconst 1, 1) := by decide +kernel
theorem d_28_46 : decode (xB 28) 46 = .ok (.iadd, 1) := by decide +kernel
theorem d_28_47 : decode (xB 28) 47 = .ok (.putfield 59, 3) := by decide +kernel
theorem d_28_50 : decode (xB 28) 50 = .ok (.return_, 1) := by decide +kernel
theorem d_29_0 : decode (xB 29) 0 = .ok (.aload_n 0, 1) := by decide +kernel
theorem d_29_1 : decode (xB 29) 1 = .ok (.getfield 9, 3) := by decide +kernel
theorem d_29_4 : decode (xB 29) 4 = .ok (.iload_n 1, 1) := by decide +kernel
theorem d_29_5 : decode (xB 29) 5 = .ok (.iaload, 1) := by decide +kernel
theorem d_29_6 : decode (xB 29) 6 = .ok (.invokestatic 36, 3) := by decide +kernel
theorem d_29_9 : decode (xB 29) 9 = .ok (.ifCond .eq 9, 3) := by decide +kernel
theorem d_29_12 : decode (xB 29) 12 = .ok (.iload_n 1, 1) := by decide +kernel
theorem d_29_13 : decode (xB 29) 13 = .ok (.iconst 1, 1) := by decide +kernel
theorem d_29_14 : decode (xB 29) 14 = .ok (.iadd, 1) := by decide +kernel
theorem d_29_15 : decode (xB 29) 15 = .ok (.goto 4, 3) := by decide +kernel
theorem d_29_18 : decode (xB 29) 18 = .ok (.iload_n 1, 1) := by decide +kernel
theorem d_29_19 : decode (xB 29) 19 = .ok (.istore_n 3, 1) := by decide +kernel
theorem d_29_20 : decode (xB 29) 20 = .ok (.iload_n 2, 1) := by decide +kernel
theorem d_29_21 : decode (xB 29) 21 = .ok (.iload_n 3, 1) := by decide +kernel
theorem d_29_22 : decode (xB 29) 22 = .ok (.isub, 1) := by decide +kernel
theorem d_29_23 : decode (xB 29) 23 = .ok (.iconst 1, 1) := by decide +kernel
theorem d_29_24 : decode (xB 29) 24 = .ok (.if_icmp .lt 10, 3) := by decide +kernel
theorem d_29_27 : decode (xB 29) 27 = .ok (.iload_n 2, 1) := by decide +kernel
theorem d_29_28 : decode (xB 29) 28 = .ok (.iload_n 3, 1) := by decide +kernel
theorem d_29_29 : decode (xB 29) 29 = .ok (.isub, 1) := by decide +kernel
theorem d_29_30 : decode (xB 29) 30 = .ok (.iconst 4, 1) := by decide +kernel
theorem d_29_31 : decode (xB 29) 31 = .ok (.if_icmp .le 5, 3) := by decide +kernel
theorem d_29_34 : decode (xB 29) 34 = .ok (.iconst 0, 1) := by decide +kernel
theorem d_29_35 : decode (xB 29) 35 = .ok (.ireturn, 1) := by decide +kernel
theorem d_29_36 : decode (xB 29) 36 = .ok (.iload_n 3, 1) := by decide +kernel
theorem d_29_37 : decode (xB 29) 37 = .ok (.istore 4, 2) := by decide +kernel
theorem d_29_39 : decode (xB 29) 39 = .ok (.iload 4, 2) := by decide +kernel
theorem d_29_41 : decode (xB 29) 41 = .ok (.iload_n 2, 1) := by decide +kernel
theorem d_29_42 : decode (xB 29) 42 = .ok (.if_icmp .ge 24, 3) := by decide +kernel
theorem d_29_45 : decode (xB 29) 45 = .ok (.aload_n 0, 1) := by decide +kernel
theorem d_29_46 : decode (xB 29) 46 = .ok (.getfield 9, 3) := by decide +kernel
theorem d_29_49 : decode (xB 29) 49 = .ok (.iload 4, 2) := by decide +kernel
theorem d_29_51 : decode (xB 29) 51 = .ok (.iaload, 1) := by decide +kernel
theorem d_29_52 : decode (xB 29) 52 = .ok (.invokestatic 33, 3) := by decide +kernel
theorem d_29_55 : decode (xB 29) 55 = .ok (.ifCond .ne 5, 3) := by decide +kernel
theorem d_29_58 : decode (xB 29) 58 = .ok (.iconst 0, 1) := by decide +kernel
theorem d_29_59 : decode (xB 29) 59 = .ok (.ireturn, 1) := by decide +kernel
theorem d_29_60 : decode (xB 29) 60 = .ok (.iinc 4 1, 3) := by decide +kernel
theorem d_29_63 : decode (xB 29) 63 = .ok (.goto (-24), 3) := by decide +kernel
theorem d_29_66 : decode (xB 29) 66 = .ok (.iconst 1, 1) := by decide +kernel
theorem d_29_67 : decode (xB 29) 67 = .ok (.ireturn, 1) := by decide +kernel
theorem d_30_0 : decode (xB 30) 0 = .ok (.iconst 0, 1) := by decide +kernel
theorem d_30_1 : decode (xB 30) 1 = .ok (.istore_n 3, 1) := by decide +kernel
theorem d_30_2 : decode (xB 30) 2 = .ok (.aload_n 0, 1) := by decide +kernel
theorem d_30_3 : decode (xB 30) 3 = .ok (.getfield 9, 3) := by decide +kernel
theorem d_30_6 : decode (xB 30) 6 = .ok (.iload_n 1, 1) := by decide +kernel
theorem d_30_7 : decode (xB 30) 7 = .ok (.iaload, 1) := by decide +kernel
theorem d_30_8 : decode (xB 30) 8 = .ok (.invokestatic 36, 3) := by decide +kernel
theorem d_30_11 : decode (xB 30) 11 = .ok (.ifCond .eq 9, 3) := by decide +kernel
theorem d_30_14 : decode (xB 30) 14 = .ok (.iload_n 1, 1) := by decide +kernel
theorem d_30_15 : decode (xB 30) 15 = .ok (.iconst 1, 1) := by decide +kernel
theorem d_30_16 : decode (xB 30) 16 = .ok (.iadd, 1) := by decide +kernel
theorem d_30_17 : decode (xB 30) 17 = .ok (.goto 4, 3) := by decide +kernel
theorem d_30_20 : decode (xB 30) 20 = .ok (.iload_n 1, 1) := by decide +kernel
theorem d_30_21 : decode (xB 30) 21 = .ok (.istore 4, 2) := by decide +kernel
theorem d_30_23 : decode (xB 30) 23 = .ok (.iload 4, 2) := by decide +kernel
theorem d_30_25 : decode (xB 30) 25 = .ok (.iload_n 2, 1) := by decide +kernel
theorem d_30_26 : decode (xB 30) 26 = .ok (.if_icmp .ge 25, 3) := by decide +kernel
theorem d_30_29 : decode (xB 30) 29 = .ok (.bipush 10, 2) := by decide +kernel
theorem d_30_31 : decode (xB 30) 31 = .ok (.iload_n 3, 1) := by decide +kernel
theorem d_30_32 : decode (xB 30) 32 = .ok (.imul, 1) := by decide +kernel
theorem d_30_33 : decode (xB 30) 33 = .ok (.aload_n 0, 1) := by decide +kernel
theorem d_30_34 : decode (xB 30) 34 = .ok (.getfield 9, 3) := by decide +kernel
theorem d_30_37 : decode (xB 30) 37 = .ok (.iload 4, 2) := by decide +kernel
theorem d_30_39 : decode (xB 30) 39 = .ok (.iaload, 1) := by decide +kernel
theorem d_30_40 : decode (xB 30) 40 = .ok (.iadd, 1) := by decide +kernel
theorem d_30_41 : decode (xB 30) 41 = .ok (.bipush 48, 2) := by decide +kernel
theorem d_30_43 : decode (xB 30) 43 = .ok (.isub, 1) := by decide +kernel
theorem d_30_44 : decode (xB 30) 44 = .ok (.istore_n 3, 1) := by decide +kernel
theorem d_30_45 : decode (xB 30) 45 = .ok (.iinc 4 1, 3) := by decide +kernel
theorem d_30_48 : decode (xB 30) 48 = .ok (.goto (-25), 3) := by decide +kernel
theorem d_30_51 : decode (xB 30) 51 = .ok (.aload_n 0, 1) := by decide +kernel
theorem d_30_52 : decode (xB 30) 52 = .ok (.getfield 9, 3) := by decide +kernel
theorem d_30_55 : decode (xB 30) 55 = .ok (.iload_n 1, 1) := by decide +kernel
theorem d_30_56 : decode (xB 30) 56 = .ok (.iaload, 1) := by decide +kernel
theorem d_30_57 : decode (xB 30) 57 = .ok (.bipush 45, 2) := by decide +kernel
theorem d_30_59 : decode (xB 30) 59 = .ok (.if_icmp .ne 8, 3) := by decide +kernel
theorem d_30_62 : decode (xB 30) 62 = .ok (.iload_n 3, 1) := by decide +kernel
theorem d_30_63 : decode (xB 30) 63 = .ok (.ineg, 1) := by decide +kernel
theorem d_30_64 : decode (xB 30) 64 = .ok (.goto 4, 3) := by decide +kernel
theorem d_30_67 : decode (xB 30) 67 = .ok (.iload_n 3, 1) := by decide +kernel
theorem d_30_68 : decode (xB 30) 68 = .ok (.ireturn, 1) := by decide +kernel
theorem d_31_0 : decode (xB 31) 0 = .ok (.iload_n 2, 1) := by decide +kernel
theorem d_31_1 : decode (xB 31) 1 = .ok (.iload_n 1, 1) := by decide +kernel
theorem d_31_2 : decode (xB 31) 2 = .ok (.isub, 1) := by decide +kernel
theorem d_31_3 : decode (xB 31) 3 = .ok (.iconst 1, 1) := by decide +kernel
theorem d_31_4 : decode (xB 31) 4 = .ok (.if_icmp .ne 10, 3) := by decide +kernel
theorem d_31_7 : decode (xB 31) 7 = .ok (.aload_n 0, 1) := by decide +kernel
theorem d_31_8 : decode (xB 31) 8 = .ok (.getfield 9, 3) := by decide +kernel
theorem d_31_11 : decode (xB 31) 11 = .ok (.iload_n 1, 1) := by decide +kernel
theorem d_31_12 : decode (xB 31) 12 = .ok (.iaload, 1) := by decide +kernel
theorem d_31_13 : decode (xB 31) 13 = .ok (.ireturn, 1) := by decide +kernel
theorem d_31_14 : decode (xB 31) 14 = .ok (.iload_n 2, 1) := by decide +kernel
theorem d_31_15 : decode (xB 31) 15 = .ok (.iload_n 1, 1) := by decide +kernel
theorem d_31_16 : decode (xB 31) 16 = .ok (.isub, 1) := by decide +kernel
theorem d_31_17 : decode (xB 31) 17 = .ok (.iconst 2, 1) := by decide +kernel
theorem d_31_18 : decode (xB 31) 18 = .ok (.if_icmp .ne 23, 3) := by decide +kernel
theorem d_31_21 : decode (xB 31) 21 = .ok (.aload_n 0, 1) := by decide +kernel
theorem d_31_22 : decode (xB 31) 22 = .ok (.getfield 9, 3) := by decide +kernel
theorem d_31_25 : decode (xB 31) 25 = .ok (.iload_n 1, 1) := by decide +kernel
theorem d_31_26 : decode (xB 31) 26 = .ok (.iaload, 1) := by decide +kernel
theorem d_31_27 : decode (xB 31) 27 = .ok (.sipush 256, 3) := by decide +kernel
theorem d_31_30 : decode (xB 31) 30 = .ok (.aload_n 0, 1) := by decide +kernel
theorem d_31_31 : decode (xB 31) 31 = .ok (.getfield 9, 3) := by decide +kernel
theorem d_31_34 : decode (xB 31) 34 = .ok (.iload_n 1, 1) := by decide +kernel
theorem d_31_35 : decode (xB 31) 35 = .ok (.iconst 1, 1) := by decide +kernel
theorem d_31_36 : decode (xB 31) 36 = .ok (.iadd, 1) := by decide +kernel
theorem d_31_37 : decode (xB 31) 37 = .ok (.iaload, 1) := by decide +kernel
theorem d_31_38 : decode (xB 31) 38 = .ok (.imul, 1) := by decide +kernel
theorem d_31_39 : decode (xB 31) 39 = .ok (.iadd, 1) := by decide +kernel
theorem d_31_40 : decode (xB 31) 40 = .ok (.ireturn, 1) := by decide +kernel
theorem d_31_41 : decode (xB 31) 41 = .ok (.iconst 0, 1) := by decide +kernel
theorem d_31_42 : decode (xB 31) 42 = .ok (.ireturn, 1) := by decide +kernel
theorem d_32_0 : decode (xB 32) 0 = .ok (.aload_n 0, 1) := by decide +kernel
theorem d_32_1 : decode (xB 32) 1 = .ok (.iload_n 1, 1) := by decide +kernel
theorem d_32_2 : decode (xB 32) 2 = .ok (.invokevirtual 138, 3) := by decide +kernel
theorem d_32_5 : decode (xB 32) 5 = .ok (.istore_n 3, 1) := by decide +kernel
theorem d_32_6 : decode (xB 32) 6 = .ok (.aload_n 0, 1) := by decide +kernel
theorem d_32_7 : decode (xB 32) 7 = .ok (.iload_n 3, 1) := by decide +kernel
theorem d_32_8 : decode (xB 32) 8 = .ok (.iload_n 2, 1) := by decide +kernel
theorem d_32_9 : decode (xB 32) 9 = .ok (.invokevirtual 98, 3) := by decide +kernel
theorem d_32_12 : decode (xB 32) 12 = .ok (.iload_n 3, 1) := by decide +kernel
theorem d_32_13 : decode (xB 32) 13 = .ok (.ifCond .ne 23, 3) := by decide +kernel
theorem d_32_16 : decode (xB 32) 16 = .ok (.aload_n 0, 1) := by decide +kernel
theorem d_32_17 : decode (xB 32) 17 = .ok (.iload_n 1, 1) := by decide +kernel
theorem d_32_18 : decode (xB 32) 18 = .ok (.invokevirtual 141, 3) := by decide +kernel
theorem d_32_21 : decode (xB 32) 21 = .ok (.aload_n 0, 1) := by decide +kernel
theorem d_32_22 : decode (xB 32) 22 = .ok (.iload_n 1, 1) := by decide +kernel
theorem d_32_23 : decode (xB 32) 23 = .ok (.invokevirtual 145, 3) := by decide +kernel
theorem d_32_26 : decode (xB 32) 26 = .ok (.aload_n 0, 1) := by decide +kernel
theorem d_32_27 : decode (xB 32) 27 = .ok (.iload_n 1, 1) := by decide +kernel
theorem d_32_28 : decode (xB 32) 28 = .ok (.invokevirtual 148, 3) := by decide +kernel
theorem d_32_31 : decode (xB 32) 31 = .ok (.aload_n 0, 1) := by decide +kernel
theorem d_32_32 : decode (xB 32) 32 = .ok (.iconst 0, 1) := by decide +kernel
theorem d_32_33 : decode (xB 32) 33 = .ok (.putfield 59, 3) := by decide +kernel
theorem d_32_36 : decode (xB 32) 36 = .ok (.return_, 1) := by decide +kernel
theorem d_33_0 : decode (xB 33) 0 = .ok (.iload_n 1, 1) := by decide +kernel
theorem d_33_1 : decode (xB 33) 1 = .ok (.invokestatic 151, 3) := by decide +kernel
theorem d_33_4 : decode (xB 33) 4 = .ok (.istore_n 2, 1) := by decide +kernel
theorem d_33_5 : decode (xB 33) 5 = .ok (.iload_n 2, 1) := by decide +kernel
theorem d_33_6 : decode (xB 33) 6 = .ok (.iconst (-1), 1) := by decide +kernel
theorem d_33_7 : decode (xB 33) 7 = .ok (.if_icmp .ne 5, 3) := by decide +kernel
theorem d_33_10 : decode (xB 33) 10 = .ok (.iconst 2, 1) := by decide +kernel
theorem d_33_11 : decode (xB 33) 11 = .ok (.ireturn, 1) := by decide +kernel
theorem d_33_12 : decode (xB 33) 12 = .ok (.aload_n 0, 1) := by decide +kernel
theorem d_33_13 : decode (xB 33) 13 = .ok (.iload_n 1, 1) := by decide +kernel
theorem d_33_14 : decode (xB 33) 14 = .ok (.invokevirtual 154, 3) := by decide +kernel
theorem d_33_17 : decode (xB 33) 17 = .ok (.ifCond .eq 6, 3) := by decide +kernel
theorem d_33_20 : decode (xB 33) 20 = .ok (.bipush 6, 2) := by decide +kernel
theorem d_33_22 : decode (xB 33) 22 = .ok (.ireturn, 1) := by decide +kernel
theorem d_33_23 : decode (xB 33) 23 = .ok (.aload_n 0, 1) := by decide +kernel
theorem d_33_24 : decode (xB 33) 24 = .ok (.getfield 59, 3) := by decide +kernel
theorem d_33_27 : decode (xB 33) 27 = .ok (.iload_n 2, 1) := by decide +kernel
theorem d_33_28 : decode (xB 33) 28 = .ok (.if_icmp .eq 5, 3) := by decide +kernel
theorem d_33_31 : decode (xB 33) 31 = .ok (.iconst 3, 1) := by decide +kernel
theorem d_33_32 : decode (xB 33) 32 = .ok (.ireturn, 1) := by decide +kernel
theorem d_33_33 : decode (xB 33) 33 = .ok (.aload_n 0, 1) := by decide +kernel
theorem d_33_34 : decode (xB 33) 34 = .ok (.getfield 21, 3) := by decide +kernel
theorem d_33_37 : decode (xB 33) 37 = .ok (.getfield 127, 3) := by decide +kernel
theorem d_33_40 : decode (xB 33) 40 = .ok (.ifCond .ne 12, 3) := by decide +kernel
theorem d_33_43 : decode (xB 33) 43 = .ok (.iload_n 1, 1) := by decide +kernel
theorem d_33_44 : decode (xB 33) 44 = .ok (.invokestatic 157, 3) := by decide +kernel
theorem d_33_47 : decode (xB 33) 47 = .ok (.ifCond .eq 5, 3) := by decide +kernel
theorem d_33_50 : decode (xB 33) 50 = .ok (.iconst 5, 1) := by decide +kernel
theorem d_33_51 : decode (xB 33) 51 = .ok (.ireturn, 1) := by decide +kernel
theorem d_33_52 : decode (xB 33) 52 = .ok (.iload_n 1, 1) := by decide +kernel
theorem d_33_53 : decode (xB 33) 53 = .ok (.bipush 81, 2) := by decide +kernel
theorem d_33_55 : decode (xB 33) 55 = .ok (.if_icmp .ne 13, 3) := by decide +kernel
theorem d_33_58 : decode (xB 33) 58 = .ok (.aload_n 0, 1) := by decide +kernel
theorem d_33_59 : decode (xB 33) 59 = .ok (.getfield 49, 3) := by decide +kernel
theorem d_33_62 : decode (xB 33) 62 = .ok (.ifCond .ne 6, 3) := by decide +kernel
theorem d_33_65 : decode (xB 33) 65 = .ok (.bipush 7, 2) := by decide +kernel
theorem d_33_67 : decode (xB 33) 67 = .ok (.ireturn, 1) := by decide +kernel
theorem d_33_68 : decode (xB 33) 68 = .ok (.iload_n 1, 1) := by decide +kernel
theorem d_33_69 : decode (xB 33) 69 = .ok (.bipush 113, 2) := by decide +kernel
theorem d_33_71 : decode (xB 33) 71 = .ok (.if_icmp .ne 15, 3) := by decide +kernel
theorem d_33_74 : decode (xB 33) 74 = .ok (.aload_n 0, 1) := by decide +kernel
theorem d_33_75 : decode (xB 33) 75 = .ok (.getfield 49, 3) := by decide +kernel
theorem d_33_78 : decode (xB 33) 78 = .ok (.bipush 6, 2) := by decide +kernel
theorem d_33_80 : decode (xB 33) 80 = .ok (.if_icmp .ne 6, 3) := by decide +kernel
theorem d_33_83 : decode (xB 33) 83 = .ok (.bipush 8, 2) := by decide +kernel
theorem d_33_85 : decode (xB 33) 85 = .ok (.ireturn, 1) := by decide +kernel
theorem d_33_86 : decode (xB 33) 86 = .ok (.aload_n 0, 1) := by decide +kernel
theorem d_33_87 : decode (xB 33) 87 = .ok (.iload_n 1, 1) := by decide +kernel
theorem d_33_88 : decode (xB 33) 88 = .ok (.invokevirtual 160, 3) := by decide +kernel
theorem d_33_91 : decode (xB 33) 91 = .ok (.ifCond .ne 5, 3) := by decide +kernel
theorem d_33_94 : decode (xB 33) 94 = .ok (.iconst 4, 1) := by decide +kernel
theorem d_33_95 : decode (xB 33) 95 = .ok (.ireturn, 1) := by decide +kernel
theorem d_33_96 : decode (xB 33) 96 = .ok (.aload_n 0, 1) := by decide +kernel
theorem d_33_97 : decode (xB 33) 97 = .ok (.getfield 21, 3) := by decide +kernel
theorem d_33_100 : decode (xB 33) 100 = .ok (.getfield 163, 3) := by decide +kernel
theorem d_33_103 : decode (xB 33) 103 = .ok (.iload_n 1, 1) := by decide +kernel
theorem d_33_104 : decode (xB 33) 104 = .ok (.invokestatic 166, 3) := by decide +kernel
theorem d_33_107 : decode (xB 33) 107 = .ok (.iadd, 1) := by decide +kernel
theorem d_33_108 : decode (xB 33) 108 = .ok (.bipush 60, 2) := by decide +kernel
theorem d_33_110 : decode (xB 33) 110 = .ok (.if_icmp .le 8, 3) := by decide +kernel
theorem d_33_113 : decode (xB 33) 113 = .ok (.bipush 10, 2) := by decide +kernel
theorem d_33_115 : decode (xB 33) 115 = .ok (.goto 4, 3) := by decide +kernel
theorem d_33_118 : decode (xB 33) 118 = .ok (.iconst 0, 1) := by decide +kernel
theorem d_33_119 : decode (xB 33) 119 = .ok (.ireturn, 1) := by decide +kernel
theorem d_34_0 : decode (xB 34) 0 = .ok (.iload_n 0, 1) := by decide +kernel
theorem d_34_1 : decode (xB 34) 1 = .ok (.lookupswitch 134 #[(81, 123), (87, 123), (99, 131), (102, 123), (103, 125), (104, 123), (108, 127), (109, 127), (110, 123), (113, 123), (10839, 123), (10854, 123), (25970, 129), (28003, 131)], 123) := by decide +kernel
theorem d_34_124 : decode (xB 34) 124 = .ok (.iconst 0, 1) := by decide +kernel
theorem d_34_125 : decode (xB 34) 125 = .ok (.ireturn, 1) := by decide +kernel
theorem d_34_126 : decode (xB 34) 126 = .ok (.iconst 1, 1) := by decide +kernel
theorem d_34_127 : decode (xB 34) 127 = .ok (.ireturn, 1) := by decide +kernel
theorem d_34_128 : decode (xB 34) 128 = .ok (.iconst 2, 1) := by decide +kernel
theorem d_34_129 : decode (xB 34) 129 = .ok (.ireturn, 1) := by decide +kernel
theorem d_34_130 : decode (xB 34) 130 = .ok (.iconst 4, 1) := by decide +kernel
theorem d_34_131 : decode (xB 34) 131 = .ok (.ireturn, 1) := by decide +kernel
theorem d_34_132 : decode (xB 34) 132 = .ok (.bipush 6, 2) := by decide +kernel
theorem d_34_134 : decode (xB 34) 134 = .ok (.ireturn, 1) := by decide +kernel
theorem d_34_135 : decode (xB 34) 135 = .ok (.iconst (-1), 1) := by decide +kernel
theorem d_34_136 : decode (xB 34) 136 = .ok (.ireturn, 1) := by decide +kernel
theorem d_35_0 : decode (xB 35) 0 = .ok (.iload_n 1, 1) := by decide +kernel
theorem d_35_1 : decode (xB 35) 1 = .ok (.lookupswitch 77 #[(81, 69), (102, 67), (103, 69), (110, 67), (113, 69), (10854, 67), (28003, 69)], 67) := by decide +kernel
theorem d_35_68 : decode (xB 35) 68 = .ok (.iconst 0, 1) := by decide +kernel
theorem d_35_69 : decode (xB 35) 69 = .ok (.ireturn, 1) := by decide +kernel
theorem d_35_70 : decode (xB 35) 70 = .ok (.aload_n 0, 1) := by decide +kernel
theorem d_35_71 : decode (xB 35) 71 = .ok (.getfield 21, 3) := by decide +kernel
theorem d_35_74 : decode (xB 35) 74 = .ok (.getfield 127, 3) := by decide +kernel
theorem d_35_77 : decode (xB 35) 77 = .ok (.ireturn, 1) := by decide +kernel
theorem d_35_78 : decode (xB 35) 78 = .ok (.aload_n 0, 1) := by decide +kernel
theorem d_35_79 : decode (xB 35) 79 = .ok (.getfield 62, 3) := by decide +kernel
theorem d_35_82 : decode (xB 35) 82 = .ok (.ifCond .eq 7, 3) := by decide +kernel
theorem d_35_85 : decode (xB 35) 85 = .ok (.iconst 1, 1) := by decide +kernel
theorem d_35_86 : decode (xB 35) 86 = .ok (.goto 4, 3) := by decide +kernel
theorem d_35_89 : decode (xB 35) 89 = .ok (.iconst 0, 1) := by decide +kernel
theorem d_35_90 : decode (xB 35) 90 = .ok (.ireturn, 1) := by decide +kernel
theorem d_36_0 : decode (xB 36) 0 = .ok (.iload_n 0, 1) := by decide +kernel
theorem d_36_1 : decode (xB 36) 1 = .ok (.lookupswitch 77 #[(87, 75), (99, 75), (102, 75), (104, 75), (108, 75), (110, 75), (10839, 75), (10854, 75)], 75) := by decide +kernel
theorem d_36_76 : decode (xB 36) 76 = .ok (.iconst 1, 1) := by decide +kernel
theorem d_36_77 : decode (xB 36) 77 = .ok (.ireturn, 1) := by decide +kernel
theorem d_36_78 : decode (xB 36) 78 = .ok (.iconst 0, 1) := by decide +kernel
theorem d_36_79 : decode (xB 36) 79 = .ok (.ireturn, 1) := by decide +kernel
theorem d_37_0 : decode (xB 37) 0 = .ok (.iload_n 1, 1) := by decide +kernel
theorem d_37_1 : decode (xB 37) 1 = .ok (.lookupswitch 269 #[(99, 109), (103, 59), (108, 91), (109, 91), (25970, 175), (28003, 86)], 59) := by decide +kernel
theorem d_37_60 : decode (xB 37) 60 = .ok (.aload_n 0, 1) := by decide +kernel
theorem d_37_61 : decode (xB 37) 61 = .ok (.getfield 31, 3) := by decide +kernel
theorem d_37_64 : decode (xB 37) 64 = .ok (.iconst 0, 1) := by decide +kernel
theorem d_37_65 : decode (xB 37) 65 = .ok (.iaload, 1) := by decide +kernel
theorem d_37_66 : decode (xB 37) 66 = .ok (.ifCond .lt 19, 3) := by decide +kernel
theorem d_37_69 : decode (xB 37) 69 = .ok (.aload_n 0, 1) := by decide +kernel
theorem d_37_70 : decode (xB 37) 70 = .ok (.getfield 31, 3) := by decide +kernel
theorem d_37_73 : decode (xB 37) 73 = .ok (.iconst 0, 1) := by decide +kernel
theorem d_37_74 : decode (xB 37) 74 = .ok (.iaload, 1) := by decide +kernel
theorem d_37_75 : decode (xB 37) 75 = .ok (.sipush 255, 3) := by decide +kernel
theorem d_37_78 : decode (xB 37) 78 = .ok (.if_icmp .gt 7, 3) := by decide +kernel
theorem d_37_81 : decode (xB 37) 81 = .ok (.iconst 1, 1) := by decide +kernel
theorem d_37_82 : decode (xB 37) 82 = .ok (.goto 4, 3) := by decide +kernel
theorem d_37_85 : decode (xB 37) 85 = .ok (.iconst 0, 1) := by decide +kernel
theorem d_37_86 : decode (xB 37) 86 = .ok (.ireturn, 1) := by decide +kernel
theorem d_37_87 : decode (xB 37) 87 = .ok (.aload_n 0, 1) := by decide +kernel
theorem d_37_88 : decode (xB 37) 88 = .ok (.invokevirtual 169, 3) := by decide +kernel
theorem d_37_91 : decode (xB 37) 91 = .ok (.ireturn, 1) := by decide +kernel
theorem d_37_92 : decode (xB 37) 92 = .ok (.aload_n 0, 1) := by decide +kernel
theorem d_37_93 : decode (xB 37) 93 = .ok (.iconst 0, 1) := by decide +kernel
theorem d_37_94 : decode (xB 37) 94 = .ok (.aload_n 0, 1) := by decide +kernel
theorem d_37_95 : decode (xB 37) 95 = .ok (.getfield 31, 3) := by decide +kernel
theorem d_37_98 : decode (xB 37) 98 = .ok (.iconst 0, 1) := by decide +kernel
theorem d_37_99 : decode (xB 37) 99 = .ok (.iaload, 1) := by decide +kernel
theorem d_37_100 : decode (xB 37) 100 = .ok (.aload_n 0, 1) := by decide +kernel
theorem d_37_101 : decode (xB 37) 101 = .ok (.getfield 31, 3) := by decide +kernel
theorem d_37_104 : decode (xB 37) 104 = .ok (.iconst 1, 1) := by decide +kernel
theorem d_37_105 : decode (xB 37) 105 = .ok (.iaload, 1) := by decide +kernel
theorem d_37_106 : decode (xB 37) 106 = .ok (.invokevirtual 173, 3) := by decide +kernel
theorem d_37_109 : decode (xB 37) 109 = .ok (.ireturn, 1) := by decide +kernel
theorem d_37_110 : decode (xB 37) 110 = .ok (.aload_n 0, 1) := by decide +kernel
theorem d_37_111 : decode (xB 37) 111 = .ok (.iconst 0, 1) := by decide +kernel
theorem d_37_112 : decode (xB 37) 112 = .ok (.aload_n 0, 1) := by decide +kernel
theorem d_37_113 : decode (xB 37) 113 = .ok (.getfield 31, 3) := by decide +kernel
theorem d_37_116 : decode (xB 37) 116 = .ok (.iconst 0, 1) := by decide +kernel
theorem d_37_117 : decode (xB 37) 117 = .ok (.iaload, 1) := by decide +kernel
theorem d_37_118 : decode (xB 37) 118 = .ok (.aload_n 0, 1) := by decide +kernel
theorem d_37_119 : decode (xB 37) 119 = .ok (.getfield 31, 3) := by decide +kernel
theorem d_37_122 : decode (xB 37) 122 = .ok (.iconst 1, 1) := by decide +kernel
theorem d_37_123 : decode (xB 37) 123 = .ok (.iaload, 1) := by decide +kernel
theorem d_37_124 : decode (xB 37) 124 = .ok (.invokevirtual 173, 3) := by decide +kernel
theorem d_37_127 : decode (xB 37) 127 = .ok (.ifCond .eq 47, 3) := by decide +kernel
theorem d_37_130 : decode (xB 37) 130 = .ok (.aload_n 0, 1) := by decide +kernel
theorem d_37_131 : decode (xB 37) 131 = .ok (.iconst 1, 1) := by decide +kernel
theorem d_37_132 : decode (xB 37) 132 = .ok (.aload_n 0, 1) := by decide +kernel
theorem d_37_133 : decode (xB 37) 133 = .ok (.getfield 31, 3) := by decide +kernel
theorem d_37_136 : decode (xB 37) 136 = .ok (.iconst 2, 1) := by decide +kernel
theorem d_37_137 : decode (xB 37) 137 = .ok (.iaload, 1) := by decide +kernel
theorem d_37_138 : decode (xB 37) 138 = .ok (.aload_n 0, 1) := by decide +kernel
theorem d_37_139 : decode (xB 37) 139 = .ok (.getfield 31, 3) := by decide +kernel
theorem d_37_142 : decode (xB 37) 142 = .ok (.iconst 3, 1) := by decide +kernel
theorem d_37_143 : decode (xB 37) 143 = .ok (.iaload, 1) := by decide +kernel
theorem d_37_144 : decode (xB 37) 144 = .ok (.invokevirtual 173, 3) := by decide +kernel
theorem d_37_147 : decode (xB 37) 147 = .ok (.ifCond .eq 27, 3) := by decide +kernel
theorem d_37_150 : decode (xB 37) 150 = .ok (.aload_n 0, 1) := by decide +kernel
theorem d_37_151 : decode (xB 37) 151 = .ok (.iconst 2, 1) := by decide +kernel
theorem d_37_152 : decode (xB 37) 152 = .ok (.aload_n 0, 1) := by decide +kernel
theorem d_37_153 : decode (xB 37) 153 = .ok (.getfield 31, 3) := by decide +kernel
theorem d_37_156 : decode (xB 37) 156 = .ok (.iconst 4, 1) := by decide +kernel
theorem d_37_157 : decode (xB 37) 157 = .ok (.iaload, 1) := by decide +kernel
theorem d_37_158 : decode (xB 37) 158 = .ok (.aload_n 0, 1) := by decide +kernel
theorem d_37_159 : decode (xB 37) 159 = .ok (.getfield 31, 3) := by decide +kernel
theorem d_37_162 : decode (xB 37) 162 = .ok (.iconst 5, 1) := by decide +kernel
theorem d_37_163 : decode (xB 37) 163 = .ok (.iaload, 1) := by decide +kernel
theorem d_37_164 : decode (xB 37) 164 = .ok (.invokevirtual 173, 3) := by decide +kernel
theorem d_37_167 : decode (xB 37) 167 = .ok (.ifCond .eq 7, 3) := by decide +kernel
theorem d_37_170 : decode (xB 37) 170 = .ok (.iconst 1, 1) := by decide +kernel
theorem d_37_171 : decode (xB 37) 171 = .ok (.goto 4, 3) := by decide +kernel
theorem d_37_174 : decode (xB 37) 174 = .ok (.iconst 0, 1) := by decide +kernel
theorem d_37_175 : decode (xB 37) 175 = .ok (.ireturn, 1) := by decide +kernel
theorem d_37_176 : decode (xB 37) 176 = .ok (.aload_n 0, 1) := by decide +kernel
theorem d_37_177 : decode (xB 37) 177 = .ok (.getfield 31, 3) := by decide +kernel
theorem d_37_180 : decode (xB 37) 180 = .ok (.iconst 0, 1) := by decide +kernel
theorem d_37_181 : decode (xB 37) 181 = .ok (.iaload, 1) := by decide +kernel
theorem d_37_182 : decode (xB 37) 182 = .ok (.aload_n 0, 1) := by decide +kernel
theorem d_37_183 : decode (xB 37) 183 = .ok (.getfield 31, 3) := by decide +kernel
theorem d_37_186 : decode (xB 37) 186 = .ok (.iconst 2, 1) := by decide +kernel
theorem d_37_187 : decode (xB 37) 187 = .ok (.iaload, 1) := by decide +kernel
theorem d_37_188 : decode (xB 37) 188 = .ok (.iadd, 1) := by decide +kernel
theorem d_37_189 : decode (xB 37) 189 = .ok (.istore_n 2, 1) := by decide +kernel
theorem d_37_190 : decode (xB 37) 190 = .ok (.aload_n 0, 1) := by decide +kernel
theorem d_37_191 : decode (xB 37) 191 = .ok (.getfield 31, 3) := by decide +kernel
theorem d_37_194 : decode (xB 37) 194 = .ok (.iconst 1, 1) := by decide +kernel
theorem d_37_195 : decode (xB 37) 195 = .ok (.iaload, 1) := by decide +kernel
theorem d_37_196 : decode (xB 37) 196 = .ok (.aload_n 0, 1) := by decide +kernel
theorem d_37_197 : decode (xB 37) 197 = .ok (.getfield 31, 3) := by decide +kernel
theorem d_37_200 : decode (xB 37) 200 = .ok (.iconst 3, 1) := by decide +kernel
theorem d_37_201 : decode (xB 37) 201 = .ok (.iaload, 1) := by decide +kernel
theorem d_37_202 : decode (xB 37) 202 = .ok (.iadd, 1) := by decide +kernel
theorem d_37_203 : decode (xB 37) 203 = .ok (.istore_n 3, 1) := by decide +kernel
theorem d_37_204 : decode (xB 37) 204 = .ok (.aload_n 0, 1) := by decide +kernel
theorem d_37_205 : decode (xB 37) 205 = .ok (.iconst 0, 1) := by decide +kernel
theorem d_37_206 : decode (xB 37) 206 = .ok (.aload_n 0, 1) := by decide +kernel
theorem d_37_207 : decode (xB 37) 207 = .ok (.getfield 31, 3) := by decide +kernel
theorem d_37_210 : decode (xB 37) 210 = .ok (.iconst 0, 1) := by decide +kernel
theorem d_37_211 : decode (xB 37) 211 = .ok (.iaload, 1) := by decide +kernel
