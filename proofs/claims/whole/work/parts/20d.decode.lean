theorem d_91_67 : decode (xB 91) 67 = .ok (.lmul, 1) := by decide +kernel
theorem d_91_68 : decode (xB 91) 68 = .ok (.aload_n 2, 1) := by decide +kernel
theorem d_91_69 : decode (xB 91) 69 = .ok (.iconst 2, 1) := by decide +kernel
theorem d_91_70 : decode (xB 91) 70 = .ok (.laload, 1) := by decide +kernel
theorem d_91_71 : decode (xB 91) 71 = .ok (.aload_n 3, 1) := by decide +kernel
theorem d_91_72 : decode (xB 91) 72 = .ok (.iconst 3, 1) := by decide +kernel
theorem d_91_73 : decode (xB 91) 73 = .ok (.iaload, 1) := by decide +kernel
theorem d_91_74 : decode (xB 91) 74 = .ok (.i2l, 1) := by decide +kernel
theorem d_91_75 : decode (xB 91) 75 = .ok (.lmul, 1) := by decide +kernel
theorem d_91_76 : decode (xB 91) 76 = .ok (.ladd, 1) := by decide +kernel
theorem d_91_77 : decode (xB 91) 77 = .ok (.lreturn, 1) := by decide +kernel
theorem d_91_78 : decode (xB 91) 78 = .ok (.iload_n 1, 1) := by decide +kernel
theorem d_91_79 : decode (xB 91) 79 = .ok (.iconst 3, 1) := by decide +kernel
theorem d_91_80 : decode (xB 91) 80 = .ok (.if_icmp .ne 21, 3) := by decide +kernel
theorem d_91_83 : decode (xB 91) 83 = .ok (.aload_n 2, 1) := by decide +kernel
theorem d_91_84 : decode (xB 91) 84 = .ok (.iconst 1, 1) := by decide +kernel
theorem d_91_85 : decode (xB 91) 85 = .ok (.laload, 1) := by decide +kernel
theorem d_91_86 : decode (xB 91) 86 = .ok (.aload_n 3, 1) := by decide +kernel
theorem d_91_87 : decode (xB 91) 87 = .ok (.iconst 2, 1) := by decide +kernel
theorem d_91_88 : decode (xB 91) 88 = .ok (.iaload, 1) := by decide +kernel
theorem d_91_89 : decode (xB 91) 89 = .ok (.i2l, 1) := by decide +kernel
theorem d_91_90 : decode (xB 91) 90 = .ok (.lmul, 1) := by decide +kernel
theorem d_91_91 : decode (xB 91) 91 = .ok (.aload_n 2, 1) := by decide +kernel
theorem d_91_92 : decode (xB 91) 92 = .ok (.iconst 3, 1) := by decide +kernel
theorem d_91_93 : decode (xB 91) 93 = .ok (.laload, 1) := by decide +kernel
theorem d_91_94 : decode (xB 91) 94 = .ok (.aload_n 3, 1) := by decide +kernel
theorem d_91_95 : decode (xB 91) 95 = .ok (.iconst 3, 1) := by decide +kernel
theorem d_91_96 : decode (xB 91) 96 = .ok (.iaload, 1) := by decide +kernel
theorem d_91_97 : decode (xB 91) 97 = .ok (.i2l, 1) := by decide +kernel
theorem d_91_98 : decode (xB 91) 98 = .ok (.lmul, 1) := by decide +kernel
theorem d_91_99 : decode (xB 91) 99 = .ok (.ladd, 1) := by decide +kernel
theorem d_91_100 : decode (xB 91) 100 = .ok (.lreturn, 1) := by decide +kernel
theorem d_91_101 : decode (xB 91) 101 = .ok (.iload_n 1, 1) := by decide +kernel
theorem d_91_102 : decode (xB 91) 102 = .ok (.iconst 4, 1) := by decide +kernel
theorem d_91_103 : decode (xB 91) 103 = .ok (.if_icmp .ne 25, 3) := by decide +kernel
theorem d_91_106 : decode (xB 91) 106 = .ok (.aload_n 2, 1) := by decide +kernel
theorem d_91_107 : decode (xB 91) 107 = .ok (.iconst 0, 1) := by decide +kernel
theorem d_91_108 : decode (xB 91) 108 = .ok (.laload, 1) := by decide +kernel
theorem d_91_109 : decode (xB 91) 109 = .ok (.aload_n 3, 1) := by decide +kernel
theorem d_91_110 : decode (xB 91) 110 = .ok (.iconst 4, 1) := by decide +kernel
theorem d_91_111 : decode (xB 91) 111 = .ok (.iaload, 1) := by decide +kernel
theorem d_91_112 : decode (xB 91) 112 = .ok (.i2l, 1) := by decide +kernel
theorem d_91_113 : decode (xB 91) 113 = .ok (.lmul, 1) := by decide +kernel
theorem d_91_114 : decode (xB 91) 114 = .ok (.aload_n 2, 1) := by decide +kernel
theorem d_91_115 : decode (xB 91) 115 = .ok (.iconst 2, 1) := by decide +kernel
theorem d_91_116 : decode (xB 91) 116 = .ok (.laload, 1) := by decide +kernel
theorem d_91_117 : decode (xB 91) 117 = .ok (.aload_n 3, 1) := by decide +kernel
theorem d_91_118 : decode (xB 91) 118 = .ok (.iconst 5, 1) := by decide +kernel
theorem d_91_119 : decode (xB 91) 119 = .ok (.iaload, 1) := by decide +kernel
theorem d_91_120 : decode (xB 91) 120 = .ok (.i2l, 1) := by decide +kernel
theorem d_91_121 : decode (xB 91) 121 = .ok (.lmul, 1) := by decide +kernel
theorem d_91_122 : decode (xB 91) 122 = .ok (.ladd, 1) := by decide +kernel
theorem d_91_123 : decode (xB 91) 123 = .ok (.aload_n 2, 1) := by decide +kernel
theorem d_91_124 : decode (xB 91) 124 = .ok (.iconst 4, 1) := by decide +kernel
theorem d_91_125 : decode (xB 91) 125 = .ok (.laload, 1) := by decide +kernel
theorem d_91_126 : decode (xB 91) 126 = .ok (.ladd, 1) := by decide +kernel
theorem d_91_127 : decode (xB 91) 127 = .ok (.lreturn, 1) := by decide +kernel
theorem d_91_128 : decode (xB 91) 128 = .ok (.aload_n 2, 1) := by decide +kernel
theorem d_91_129 : decode (xB 91) 129 = .ok (.iconst 1, 1) := by decide +kernel
theorem d_91_130 : decode (xB 91) 130 = .ok (.laload, 1) := by decide +kernel
theorem d_91_131 : decode (xB 91) 131 = .ok (.aload_n 3, 1) := by decide +kernel
theorem d_91_132 : decode (xB 91) 132 = .ok (.iconst 4, 1) := by decide +kernel
theorem d_91_133 : decode (xB 91) 133 = .ok (.iaload, 1) := by decide +kernel
theorem d_91_134 : decode (xB 91) 134 = .ok (.i2l, 1) := by decide +kernel
theorem d_91_135 : decode (xB 91) 135 = .ok (.lmul, 1) := by decide +kernel
theorem d_91_136 : decode (xB 91) 136 = .ok (.aload_n 2, 1) := by decide +kernel
theorem d_91_137 : decode (xB 91) 137 = .ok (.iconst 3, 1) := by decide +kernel
theorem d_91_138 : decode (xB 91) 138 = .ok (.laload, 1) := by decide +kernel
theorem d_91_139 : decode (xB 91) 139 = .ok (.aload_n 3, 1) := by decide +kernel
theorem d_91_140 : decode (xB 91) 140 = .ok (.iconst 5, 1) := by decide +kernel
theorem d_91_141 : decode (xB 91) 141 = .ok (.iaload, 1) := by decide +kernel
theorem d_91_142 : decode (xB 91) 142 = .ok (.i2l, 1) := by decide +kernel
theorem d_91_143 : decode (xB 91) 143 = .ok (.lmul, 1) := by decide +kernel
theorem d_91_144 : decode (xB 91) 144 = .ok (.ladd, 1) := by decide +kernel
theorem d_91_145 : decode (xB 91) 145 = .ok (.aload_n 2, 1) := by decide +kernel
theorem d_91_146 : decode (xB 91) 146 = .ok (.iconst 5, 1) := by decide +kernel
theorem d_91_147 : decode (xB 91) 147 = .ok (.laload, 1) := by decide +kernel
theorem d_91_148 : decode (xB 91) 148 = .ok (.ladd, 1) := by decide +kernel
theorem d_91_149 : decode (xB 91) 149 = .ok (.lreturn, 1) := by decide +kernel
theorem d_92_0 : decode (xB 92) 0 = .ok (.aload_n 0, 1) := by decide +kernel
theorem d_92_1 : decode (xB 92) 1 = .ok (.getfield 45, 3) := by decide +kernel
theorem d_92_4 : decode (xB 92) 4 = .ok (.astore_n 2, 1) := by decide +kernel
theorem d_92_5 : decode (xB 92) 5 = .ok (.iload_n 1, 1) := by decide +kernel
theorem d_92_6 : decode (xB 92) 6 = .ok (.tableswitch 310 0 10 #[58, 65, 72, 163, 173, 186, 199, 215, 287, 294, 302], 58) := by decide +kernel
theorem d_92_64 : decode (xB 92) 64 = .ok (.aload_n 0, 1) := by decide +kernel
theorem d_92_65 : decode (xB 92) 65 = .ok (.invokevirtual 200, 3) := by decide +kernel
theorem d_92_68 : decode (xB 92) 68 = .ok (.goto 253, 3) := by decide +kernel
theorem d_92_71 : decode (xB 92) 71 = .ok (.aload_n 0, 1) := by decide +kernel
theorem d_92_72 : decode (xB 92) 72 = .ok (.invokevirtual 203, 3) := by decide +kernel
theorem d_92_75 : decode (xB 92) 75 = .ok (.goto 246, 3) := by decide +kernel
theorem d_92_78 : decode (xB 92) 78 = .ok (.aload_n 0, 1) := by decide +kernel
theorem d_92_79 : decode (xB 92) 79 = .ok (.iconst 0, 1) := by decide +kernel
theorem d_92_80 : decode (xB 92) 80 = .ok (.invokevirtual 154, 3) := by decide +kernel
theorem d_92_83 : decode (xB 92) 83 = .ok (.lstore_n 3, 1) := by decide +kernel
theorem d_92_84 : decode (xB 92) 84 = .ok (.aload_n 0, 1) := by decide +kernel
theorem d_92_85 : decode (xB 92) 85 = .ok (.iconst 1, 1) := by decide +kernel
theorem d_92_86 : decode (xB 92) 86 = .ok (.invokevirtual 154, 3) := by decide +kernel
theorem d_92_89 : decode (xB 92) 89 = .ok (.lstore 5, 2) := by decide +kernel
theorem d_92_91 : decode (xB 92) 91 = .ok (.aload_n 0, 1) := by decide +kernel
theorem d_92_92 : decode (xB 92) 92 = .ok (.iconst 2, 1) := by decide +kernel
theorem d_92_93 : decode (xB 92) 93 = .ok (.invokevirtual 154, 3) := by decide +kernel
theorem d_92_96 : decode (xB 92) 96 = .ok (.lstore 7, 2) := by decide +kernel
theorem d_92_98 : decode (xB 92) 98 = .ok (.aload_n 0, 1) := by decide +kernel
theorem d_92_99 : decode (xB 92) 99 = .ok (.iconst 3, 1) := by decide +kernel
theorem d_92_100 : decode (xB 92) 100 = .ok (.invokevirtual 154, 3) := by decide +kernel
theorem d_92_103 : decode (xB 92) 103 = .ok (.lstore 9, 2) := by decide +kernel
theorem d_92_105 : decode (xB 92) 105 = .ok (.aload_n 0, 1) := by decide +kernel
theorem d_92_106 : decode (xB 92) 106 = .ok (.iconst 4, 1) := by decide +kernel
theorem d_92_107 : decode (xB 92) 107 = .ok (.invokevirtual 154, 3) := by decide +kernel
theorem d_92_110 : decode (xB 92) 110 = .ok (.lstore 11, 2) := by decide +kernel
theorem d_92_112 : decode (xB 92) 112 = .ok (.aload_n 0, 1) := by decide +kernel
theorem d_92_113 : decode (xB 92) 113 = .ok (.iconst 5, 1) := by decide +kernel
theorem d_92_114 : decode (xB 92) 114 = .ok (.invokevirtual 154, 3) := by decide +kernel
theorem d_92_117 : decode (xB 92) 117 = .ok (.lstore 13, 2) := by decide +kernel
theorem d_92_119 : decode (xB 92) 119 = .ok (.aload_n 0, 1) := by decide +kernel
theorem d_92_120 : decode (xB 92) 120 = .ok (.getfield 20, 3) := by decide +kernel
theorem d_92_123 : decode (xB 92) 123 = .ok (.iconst 0, 1) := by decide +kernel
theorem d_92_124 : decode (xB 92) 124 = .ok (.lload_n 3, 1) := by decide +kernel
theorem d_92_125 : decode (xB 92) 125 = .ok (.lastore, 1) := by decide +kernel
theorem d_92_126 : decode (xB 92) 126 = .ok (.aload_n 0, 1) := by decide +kernel
theorem d_92_127 : decode (xB 92) 127 = .ok (.getfield 20, 3) := by decide +kernel
theorem d_92_130 : decode (xB 92) 130 = .ok (.iconst 1, 1) := by decide +kernel
theorem d_92_131 : decode (xB 92) 131 = .ok (.lload 5, 2) := by decide +kernel
theorem d_92_133 : decode (xB 92) 133 = .ok (.lastore, 1) := by decide +kernel
theorem d_92_134 : decode (xB 92) 134 = .ok (.aload_n 0, 1) := by decide +kernel
theorem d_92_135 : decode (xB 92) 135 = .ok (.getfield 20, 3) := by decide +kernel
theorem d_92_138 : decode (xB 92) 138 = .ok (.iconst 2, 1) := by decide +kernel
theorem d_92_139 : decode (xB 92) 139 = .ok (.lload 7, 2) := by decide +kernel
theorem d_92_141 : decode (xB 92) 141 = .ok (.lastore, 1) := by decide +kernel
theorem d_92_142 : decode (xB 92) 142 = .ok (.aload_n 0, 1) := by decide +kernel
theorem d_92_143 : decode (xB 92) 143 = .ok (.getfield 20, 3) := by decide +kernel
theorem d_92_146 : decode (xB 92) 146 = .ok (.iconst 3, 1) := by decide +kernel
theorem d_92_147 : decode (xB 92) 147 = .ok (.lload 9, 2) := by decide +kernel
theorem d_92_149 : decode (xB 92) 149 = .ok (.lastore, 1) := by decide +kernel
theorem d_92_150 : decode (xB 92) 150 = .ok (.aload_n 0, 1) := by decide +kernel
theorem d_92_151 : decode (xB 92) 151 = .ok (.getfield 20, 3) := by decide +kernel
theorem d_92_154 : decode (xB 92) 154 = .ok (.iconst 4, 1) := by decide +kernel
theorem d_92_155 : decode (xB 92) 155 = .ok (.lload 11, 2) := by decide +kernel
theorem d_92_157 : decode (xB 92) 157 = .ok (.lastore, 1) := by decide +kernel
theorem d_92_158 : decode (xB 92) 158 = .ok (.aload_n 0, 1) := by decide +kernel
theorem d_92_159 : decode (xB 92) 159 = .ok (.getfield 20, 3) := by decide +kernel
theorem d_92_162 : decode (xB 92) 162 = .ok (.iconst 5, 1) := by decide +kernel
theorem d_92_163 : decode (xB 92) 163 = .ok (.lload 13, 2) := by decide +kernel
theorem d_92_165 : decode (xB 92) 165 = .ok (.lastore, 1) := by decide +kernel
theorem d_92_166 : decode (xB 92) 166 = .ok (.goto 155, 3) := by decide +kernel
theorem d_92_169 : decode (xB 92) 169 = .ok (.aload_n 0, 1) := by decide +kernel
theorem d_92_170 : decode (xB 92) 170 = .ok (.aload_n 2, 1) := by decide +kernel
theorem d_92_171 : decode (xB 92) 171 = .ok (.iconst 0, 1) := by decide +kernel
theorem d_92_172 : decode (xB 92) 172 = .ok (.iaload, 1) := by decide +kernel
theorem d_92_173 : decode (xB 92) 173 = .ok (.putfield 71, 3) := by decide +kernel
theorem d_92_176 : decode (xB 92) 176 = .ok (.goto 145, 3) := by decide +kernel
theorem d_92_179 : decode (xB 92) 179 = .ok (.aload_n 0, 1) := by decide +kernel
theorem d_92_180 : decode (xB 92) 180 = .ok (.aload_n 2, 1) := by decide +kernel
theorem d_92_181 : decode (xB 92) 181 = .ok (.iconst 0, 1) := by decide +kernel
theorem d_92_182 : decode (xB 92) 182 = .ok (.iaload, 1) := by decide +kernel
theorem d_92_183 : decode (xB 92) 183 = .ok (.aload_n 2, 1) := by decide +kernel
theorem d_92_184 : decode (xB 92) 184 = .ok (.iconst 1, 1) := by decide +kernel
theorem d_92_185 : decode (xB 92) 185 = .ok (.iaload, 1) := by decide +kernel
theorem d_92_186 : decode (xB 92) 186 = .ok (.invokevirtual 206, 3) := by decide +kernel
theorem d_92_189 : decode (xB 92) 189 = .ok (.goto 132, 3) := by decide +kernel
theorem d_92_192 : decode (xB 92) 192 = .ok (.aload_n 0, 1) := by decide +kernel
theorem d_92_193 : decode (xB 92) 193 = .ok (.aload_n 2, 1) := by decide +kernel
theorem d_92_194 : decode (xB 92) 194 = .ok (.iconst 0, 1) := by decide +kernel
theorem d_92_195 : decode (xB 92) 195 = .ok (.iaload, 1) := by decide +kernel
theorem d_92_196 : decode (xB 92) 196 = .ok (.aload_n 2, 1) := by decide +kernel
theorem d_92_197 : decode (xB 92) 197 = .ok (.iconst 1, 1) := by decide +kernel
theorem d_92_198 : decode (xB 92) 198 = .ok (.iaload, 1) := by decide +kernel
theorem d_92_199 : decode (xB 92) 199 = .ok (.invokevirtual 209, 3) := by decide +kernel
theorem d_92_202 : decode (xB 92) 202 = .ok (.goto 119, 3) := by decide +kernel
theorem d_92_205 : decode (xB 92) 205 = .ok (.aload_n 0, 1) := by decide +kernel
theorem d_92_206 : decode (xB 92) 206 = .ok (.aload_n 0, 1) := by decide +kernel
theorem d_92_207 : decode (xB 92) 207 = .ok (.getfield 171, 3) := by decide +kernel
theorem d_92_210 : decode (xB 92) 210 = .ok (.aload_n 0, 1) := by decide +kernel
theorem d_92_211 : decode (xB 92) 211 = .ok (.getfield 174, 3) := by decide +kernel
theorem d_92_214 : decode (xB 92) 214 = .ok (.iconst 1, 1) := by decide +kernel
theorem d_92_215 : decode (xB 92) 215 = .ok (.invokevirtual 177, 3) := by decide +kernel
theorem d_92_218 : decode (xB 92) 218 = .ok (.goto 103, 3) := by decide +kernel
theorem d_92_221 : decode (xB 92) 221 = .ok (.aload_n 0, 1) := by decide +kernel
theorem d_92_222 : decode (xB 92) 222 = .ok (.aload_n 2, 1) := by decide +kernel
theorem d_92_223 : decode (xB 92) 223 = .ok (.iconst 0, 1) := by decide +kernel
theorem d_92_224 : decode (xB 92) 224 = .ok (.iaload, 1) := by decide +kernel
theorem d_92_225 : decode (xB 92) 225 = .ok (.aload_n 2, 1) := by decide +kernel
theorem d_92_226 : decode (xB 92) 226 = .ok (.iconst 1, 1) := by decide +kernel
theorem d_92_227 : decode (xB 92) 227 = .ok (.iaload, 1) := by decide +kernel
theorem d_92_228 : decode (xB 92) 228 = .ok (.invokevirtual 206, 3) := by decide +kernel
theorem d_92_231 : decode (xB 92) 231 = .ok (.aload_n 0, 1) := by decide +kernel
theorem d_92_232 : decode (xB 92) 232 = .ok (.aload_n 2, 1) := by decide +kernel
theorem d_92_233 : decode (xB 92) 233 = .ok (.iconst 0, 1) := by decide +kernel
theorem d_92_234 : decode (xB 92) 234 = .ok (.iaload, 1) := by decide +kernel
theorem d_92_235 : decode (xB 92) 235 = .ok (.aload_n 2, 1) := by decide +kernel
theorem d_92_236 : decode (xB 92) 236 = .ok (.iconst 2, 1) := by decide +kernel
theorem d_92_237 : decode (xB 92) 237 = .ok (.iaload, 1) := by decide +kernel
theorem d_92_238 : decode (xB 92) 238 = .ok (.iadd, 1) := by decide +kernel
theorem d_92_239 : decode (xB 92) 239 = .ok (.aload_n 2, 1) := by decide +kernel
theorem d_92_240 : decode (xB 92) 240 = .ok (.iconst 1, 1) := by decide +kernel
theorem d_92_241 : decode (xB 92) 241 = .ok (.iaload, 1) := by decide +kernel
theorem d_92_242 : decode (xB 92) 242 = .ok (.invokevirtual 209, 3) := by decide +kernel
theorem d_92_245 : decode (xB 92) 245 = .ok (.aload_n 0, 1) := by decide +kernel
theorem d_92_246 : decode (xB 92) 246 = .ok (.aload_n 2, 1) := by decide +kernel
theorem d_92_247 : decode (xB 92) 247 = .ok (.iconst 0, 1) := by decide +kernel
theorem d_92_248 : decode (xB 92) 248 = .ok (.iaload, 1) := by decide +kernel
theorem d_92_249 : decode (xB 92) 249 = .ok (.aload_n 2, 1) := by decide +kernel
theorem d_92_250 : decode (xB 92) 250 = .ok (.iconst 2, 1) := by decide +kernel
theorem d_92_251 : decode (xB 92) 251 = .ok (.iaload, 1) := by decide +kernel
theorem d_92_252 : decode (xB 92) 252 = .ok (.iadd, 1) := by decide +kernel
theorem d_92_253 : decode (xB 92) 253 = .ok (.aload_n 2, 1) := by decide +kernel
theorem d_92_254 : decode (xB 92) 254 = .ok (.iconst 1, 1) := by decide +kernel
theorem d_92_255 : decode (xB 92) 255 = .ok (.iaload, 1) := by decide +kernel
theorem d_92_256 : decode (xB 92) 256 = .ok (.aload_n 2, 1) := by decide +kernel
theorem d_92_257 : decode (xB 92) 257 = .ok (.iconst 3, 1) := by decide +kernel
theorem d_92_258 : decode (xB 92) 258 = .ok (.iaload, 1) := by decide +kernel
theorem d_92_259 : decode (xB 92) 259 = .ok (.iadd, 1) := by decide +kernel
theorem d_92_260 : decode (xB 92) 260 = .ok (.invokevirtual 209, 3) := by decide +kernel
theorem d_92_263 : decode (xB 92) 263 = .ok (.aload_n 0, 1) := by decide +kernel
theorem d_92_264 : decode (xB 92) 264 = .ok (.aload_n 2, 1) := by decide +kernel
theorem d_92_265 : decode (xB 92) 265 = .ok (.iconst 0, 1) := by decide +kernel
theorem d_92_266 : decode (xB 92) 266 = .ok (.iaload, 1) := by decide +kernel
theorem d_92_267 : decode (xB 92) 267 = .ok (.aload_n 2, 1) := by decide +kernel
theorem d_92_268 : decode (xB 92) 268 = .ok (.iconst 1, 1) := by decide +kernel
theorem d_92_269 : decode (xB 92) 269 = .ok (.iaload, 1) := by decide +kernel
theorem d_92_270 : decode (xB 92) 270 = .ok (.aload_n 2, 1) := by decide +kernel
theorem d_92_271 : decode (xB 92) 271 = .ok (.iconst 3, 1) := by decide +kernel
theorem d_92_272 : decode (xB 92) 272 = .ok (.iaload, 1) := by decide +kernel
theorem d_92_273 : decode (xB 92) 273 = .ok (.iadd, 1) := by decide +kernel
theorem d_92_274 : decode (xB 92) 274 = .ok (.invokevirtual 209, 3) := by decide +kernel
theorem d_92_277 : decode (xB 92) 277 = .ok (.aload_n 0, 1) := by decide +kernel
theorem d_92_278 : decode (xB 92) 278 = .ok (.aload_n 0, 1) := by decide +kernel
theorem d_92_279 : decode (xB 92) 279 = .ok (.getfield 171, 3) := by decide +kernel
theorem d_92_282 : decode (xB 92) 282 = .ok (.aload_n 0, 1) := by decide +kernel
theorem d_92_283 : decode (xB 92) 283 = .ok (.getfield 174, 3) := by decide +kernel
theorem d_92_286 : decode (xB 92) 286 = .ok (.iconst 1, 1) := by decide +kernel
theorem d_92_287 : decode (xB 92) 287 = .ok (.invokevirtual 177, 3) := by decide +kernel
theorem d_92_290 : decode (xB 92) 290 = .ok (.goto 31, 3) := by decide +kernel
theorem d_92_293 : decode (xB 92) 293 = .ok (.aload_n 0, 1) := by decide +kernel
theorem d_92_294 : decode (xB 92) 294 = .ok (.invokevirtual 212, 3) := by decide +kernel
theorem d_92_297 : decode (xB 92) 297 = .ok (.goto 24, 3) := by decide +kernel
theorem d_92_300 : decode (xB 92) 300 = .ok (.aload_n 0, 1) := by decide +kernel
theorem d_92_301 : decode (xB 92) 301 = .ok (.iconst 1, 1) := by decide +kernel
theorem d_92_302 : decode (xB 92) 302 = .ok (.putfield 81, 3) := by decide +kernel
theorem d_92_305 : decode (xB 92) 305 = .ok (.goto 16, 3) := by decide +kernel
theorem d_92_308 : decode (xB 92) 308 = .ok (.aload_n 0, 1) := by decide +kernel
theorem d_92_309 : decode (xB 92) 309 = .ok (.iconst 2, 1) := by decide +kernel
theorem d_92_310 : decode (xB 92) 310 = .ok (.putfield 81, 3) := by decide +kernel
theorem d_92_313 : decode (xB 92) 313 = .ok (.goto 8, 3) := by decide +kernel
theorem d_92_316 : decode (xB 92) 316 = .ok (.aload_n 0, 1) := by decide +kernel
theorem d_92_317 : decode (xB 92) 317 = .ok (.iload_n 1, 1) := by decide +kernel
theorem d_92_318 : decode (xB 92) 318 = .ok (.invokevirtual 215, 3) := by decide +kernel
theorem d_92_321 : decode (xB 92) 321 = .ok (.return_, 1) := by decide +kernel
theorem d_93_0 : decode (xB 93) 0 = .ok (.iconst 0, 1) := by decide +kernel
theorem d_93_1 : decode (xB 93) 1 = .ok (.istore_n 1, 1) := by decide +kernel
theorem d_93_2 : decode (xB 93) 2 = .ok (.iload_n 1, 1) := by decide +kernel
theorem d_93_3 : decode (xB 93) 3 = .ok (.bipush 6, 2) := by decide +kernel
theorem d_93_5 : decode (xB 93) 5 = .ok (.if_icmp .ge 29, 3) := by decide +kernel
theorem d_93_8 : decode (xB 93) 8 = .ok (.aload_n 0, 1) := by decide +kernel
theorem d_93_9 : decode (xB 93) 9 = .ok (.getfield 24, 3) := by decide +kernel
theorem d_93_12 : decode (xB 93) 12 = .ok (.bipush 6, 2) := by decide +kernel
theorem d_93_14 : decode (xB 93) 14 = .ok (.aload_n 0, 1) := by decide +kernel
theorem d_93_15 : decode (xB 93) 15 = .ok (.getfield 74, 3) := by decide +kernel
theorem d_93_18 : decode (xB 93) 18 = .ok (.imul, 1) := by decide +kernel
theorem d_93_19 : decode (xB 93) 19 = .ok (.iload_n 1, 1) := by decide +kernel
theorem d_93_20 : decode (xB 93) 20 = .ok (.iadd, 1) := by decide +kernel
theorem d_93_21 : decode (xB 93) 21 = .ok (.aload_n 0, 1) := by decide +kernel
theorem d_93_22 : decode (xB 93) 22 = .ok (.getfield 20, 3) := by decide +kernel
theorem d_93_25 : decode (xB 93) 25 = .ok (.iload_n 1, 1) := by decide +kernel
theorem d_93_26 : decode (xB 93) 26 = .ok (.laload, 1) := by decide +kernel
theorem d_93_27 : decode (xB 93) 27 = .ok (.lastore, 1) := by decide +kernel
theorem d_93_28 : decode (xB 93) 28 = .ok (.iinc 1 1, 3) := by decide +kernel
theorem d_93_31 : decode (xB 93) 31 = .ok (.goto (-29), 3) := by decide +kernel
theorem d_93_34 : decode (xB 93) 34 = .ok (.iconst 0, 1) := by decide +kernel
theorem d_93_35 : decode (xB 93) 35 = .ok (.istore_n 1, 1) := by decide +kernel
theorem d_93_36 : decode (xB 93) 36 = .ok (.iload_n 1, 1) := by decide +kernel
theorem d_93_37 : decode (xB 93) 37 = .ok (.sipush 400, 3) := by decide +kernel
theorem d_93_40 : decode (xB 93) 40 = .ok (.if_icmp .ge 30, 3) := by decide +kernel
theorem d_93_43 : decode (xB 93) 43 = .ok (.aload_n 0, 1) := by decide +kernel
theorem d_93_44 : decode (xB 93) 44 = .ok (.getfield 30, 3) := by decide +kernel
theorem d_93_47 : decode (xB 93) 47 = .ok (.sipush 400, 3) := by decide +kernel
theorem d_93_50 : decode (xB 93) 50 = .ok (.aload_n 0, 1) := by decide +kernel
theorem d_93_51 : decode (xB 93) 51 = .ok (.getfield 74, 3) := by decide +kernel
theorem d_93_54 : decode (xB 93) 54 = .ok (.imul, 1) := by decide +kernel
theorem d_93_55 : decode (xB 93) 55 = .ok (.iload_n 1, 1) := by decide +kernel
theorem d_93_56 : decode (xB 93) 56 = .ok (.iadd, 1) := by decide +kernel
theorem d_93_57 : decode (xB 93) 57 = .ok (.aload_n 0, 1) := by decide +kernel
theorem d_93_58 : decode (xB 93) 58 = .ok (.getfield 16, 3) := by decide +kernel
theorem d_93_61 : decode (xB 93) 61 = .ok (.iload_n 1, 1) := by decide +kernel
theorem d_93_62 : decode (xB 93) 62 = .ok (.baload, 1) := by decide +kernel
theorem d_93_63 : decode (xB 93) 63 = .ok (.bastore, 1) := by decide +kernel
theorem d_93_64 : decode (xB 93) 64 = .ok (.iinc 1 1, 3) := by decide +kernel
theorem d_93_67 : decode (xB 93) 67 = .ok (.goto (-31), 3) := by decide +kernel
theorem d_93_70 : decode (xB 93) 70 = .ok (.aload_n 0, 1) := by decide +kernel
theorem d_93_71 : decode (xB 93) 71 = .ok (.getfield 27, 3) := by decide +kernel
theorem d_93_74 : decode (xB 93) 74 = .ok (.aload_n 0, 1) := by decide +kernel
theorem d_93_75 : decode (xB 93) 75 = .ok (.getfield 74, 3) := by decide +kernel
theorem d_93_78 : decode (xB 93) 78 = .ok (.aload_n 0, 1) := by decide +kernel
theorem d_93_79 : decode (xB 93) 79 = .ok (.getfield 71, 3) := by decide +kernel
theorem d_93_82 : decode (xB 93) 82 = .ok (.iastore, 1) := by decide +kernel
theorem d_93_83 : decode (xB 93) 83 = .ok (.aload_n 0, 1) := by decide +kernel
theorem d_93_84 : decode (xB 93) 84 = .ok (.dup, 1) := by decide +kernel
theorem d_93_85 : decode (xB 93) 85 = .ok (.getfield 74, 3) := by decide +kernel
theorem d_93_88 : decode (xB 93) 88 = .ok (.iconst 1, 1) := by decide +kernel
theorem d_93_89 : decode (xB 93) 89 = .ok (.iadd, 1) := by decide +kernel
theorem d_93_90 : decode (xB 93) 90 = .ok (.putfield 74, 3) := by decide +kernel
theorem d_93_93 : decode (xB 93) 93 = .ok (.aload_n 0, 1) := by decide +kernel
theorem d_93_94 : decode (xB 93) 94 = .ok (.getfield 74, 3) := by decide +kernel
theorem d_93_97 : decode (xB 93) 97 = .ok (.aload_n 0, 1) := by decide +kernel
theorem d_93_98 : decode (xB 93) 98 = .ok (.getfield 93, 3) := by decide +kernel
theorem d_93_101 : decode (xB 93) 101 = .ok (.if_icmp .le 11, 3) := by decide +kernel
theorem d_93_104 : decode (xB 93) 104 = .ok (.aload_n 0, 1) := by decide +kernel
theorem d_93_105 : decode (xB 93) 105 = .ok (.aload_n 0, 1) := by decide +kernel
theorem d_93_106 : decode (xB 93) 106 = .ok (.getfield 74, 3) := by decide +kernel
theorem d_93_109 : decode (xB 93) 109 = .ok (.putfield 93, 3) := by decide +kernel
theorem d_93_112 : decode (xB 93) 112 = .ok (.return_, 1) := by decide +kernel
theorem d_94_0 : decode (xB 94) 0 = .ok (.aload_n 0, 1) := by decide +kernel
theorem d_94_1 : decode (xB 94) 1 = .ok (.dup, 1) := by decide +kernel
theorem d_94_2 : decode (xB 94) 2 = .ok (.getfield 74, 3) := by decide +kernel
theorem d_94_5 : decode (xB 94) 5 = .ok (.iconst 1, 1) := by decide +kernel
theorem d_94_6 : decode (xB 94) 6 = .ok (.isub, 1) := by decide +kernel
theorem d_94_7 : decode (xB 94) 7 = .ok (.putfield 74, 3) := by decide +kernel
theorem d_94_10 : decode (xB 94) 10 = .ok (.iconst 0, 1) := by decide +kernel
theorem d_94_11 : decode (xB 94) 11 = .ok (.istore_n 1, 1) := by decide +kernel
theorem d_94_12 : decode (xB 94) 12 = .ok (.iload_n 1, 1) := by decide +kernel
theorem d_94_13 : decode (xB 94) 13 = .ok (.bipush 6, 2) := by decide +kernel
theorem d_94_15 : decode (xB 94) 15 = .ok (.if_icmp .ge 29, 3) := by decide +kernel
theorem d_94_18 : decode (xB 94) 18 = .ok (.aload_n 0, 1) := by decide +kernel
theorem d_94_19 : decode (xB 94) 19 = .ok (.getfield 20, 3) := by decide +kernel
theorem d_94_22 : decode (xB 94) 22 = .ok (.iload_n 1, 1) := by decide +kernel
theorem d_94_23 : decode (xB 94) 23 = .ok (.aload_n 0, 1) := by decide +kernel
theorem d_94_24 : decode (xB 94) 24 = .ok (.getfield 24, 3) := by decide +kernel
theorem d_94_27 : decode (xB 94) 27 = .ok (.bipush 6, 2) := by decide +kernel
theorem d_94_29 : decode (xB 94) 29 = .ok (.aload_n 0, 1) := by decide +kernel
theorem d_94_30 : decode (xB 94) 30 = .ok (.getfield 74, 3) := by decide +kernel
theorem d_94_33 : decode (xB 94) 33 = .ok (.imul, 1) := by decide +kernel
theorem d_94_34 : decode (xB 94) 34 = .ok (.iload_n 1, 1) := by decide +kernel
theorem d_94_35 : decode (xB 94) 35 = .ok (.iadd, 1) := by decide +kernel
theorem d_94_36 : decode (xB 94) 36 = .ok (.laload, 1) := by decide +kernel
theorem d_94_37 : decode (xB 94) 37 = .ok (.lastore, 1) := by decide +kernel
theorem d_94_38 : decode (xB 94) 38 = .ok (.iinc 1 1, 3) := by decide +kernel
theorem d_94_41 : decode (xB 94) 41 = .ok (.goto (-29), 3) := by decide +kernel
theorem d_94_44 : decode (xB 94) 44 = .ok (.iconst 0, 1) := by decide +kernel
theorem d_94_45 : decode (xB 94) 45 = .ok (.istore_n 1, 1) := by decide +kernel
theorem d_94_46 : decode (xB 94) 46 = .ok (.iload_n 1, 1) := by decide +kernel
theorem d_94_47 : decode (xB 94) 47 = .ok (.sipush 400, 3) := by decide +kernel
theorem d_94_50 : decode (xB 94) 50 = .ok (.if_icmp .ge 30, 3) := by decide +kernel
theorem d_94_53 : decode (xB 94) 53 = .ok (.aload_n 0, 1) := by decide +kernel
theorem d_94_54 : decode (xB 94) 54 = .ok (.getfield 16, 3) := by decide +kernel
theorem d_94_57 : decode (xB 94) 57 = .ok (.iload_n 1, 1) := by decide +kernel
theorem d_94_58 : decode (xB 94) 58 = .ok (.aload_n 0, 1) := by decide +kernel
theorem d_94_59 : decode (xB 94) 59 = .ok (.getfield 30, 3) := by decide +kernel
theorem d_94_62 : decode (xB 94) 62 = .ok (.sipush 400, 3) := by decide +kernel
theorem d_94_65 : decode (xB 94) 65 = .ok (.aload_n 0, 1) := by decide +kernel
theorem d_94_66 : decode (xB 94) 66 = .ok (.getfield 74, 3) := by decide +kernel
theorem d_94_69 : decode (xB 94) 69 = .ok (.imul, 1) := by decide +kernel
theorem d_94_70 : decode (xB 94) 70 = .ok (.iload_n 1, 1) := by decide +kernel
theorem d_94_71 : decode (xB 94) 71 = .ok (.iadd, 1) := by decide +kernel
theorem d_94_72 : decode (xB 94) 72 = .ok (.baload, 1) := by decide +kernel
theorem d_94_73 : decode (xB 94) 73 = .ok (.bastore, 1) := by decide +kernel
theorem d_94_74 : decode (xB 94) 74 = .ok (.iinc 1 1, 3) := by decide +kernel
theorem d_94_77 : decode (xB 94) 77 = .ok (.goto (-31), 3) := by decide +kernel
theorem d_94_80 : decode (xB 94) 80 = .ok (.aload_n 0, 1) := by decide +kernel
theorem d_94_81 : decode (xB 94) 81 = .ok (.aload_n 0, 1) := by decide +kernel
theorem d_94_82 : decode (xB 94) 82 = .ok (.getfield 27, 3) := by decide +kernel
theorem d_94_85 : decode (xB 94) 85 = .ok (.aload_n 0, 1) := by decide +kernel
theorem d_94_86 : decode (xB 94) 86 = .ok (.getfield 74, 3) := by decide +kernel
theorem d_94_89 : decode (xB 94) 89 = .ok (.iaload, 1) := by decide +kernel
theorem d_94_90 : decode (xB 94) 90 = .ok (.putfield 71, 3) := by decide +kernel
theorem d_94_93 : decode (xB 94) 93 = .ok (.return_, 1) := by decide +kernel
theorem d_95_0 : decode (xB 95) 0 = .ok (.aload_n 0, 1) := by decide +kernel
theorem d_95_1 : decode (xB 95) 1 = .ok (.getfield 77, 3) := by decide +kernel
theorem d_95_4 : decode (xB 95) 4 = .ok (.ifCond .eq 10, 3) := by decide +kernel
theorem d_95_7 : decode (xB 95) 7 = .ok (.aload_n 0, 1) := by decide +kernel
theorem d_95_8 : decode (xB 95) 8 = .ok (.invokevirtual 181, 3) := by decide +kernel
theorem d_95_11 : decode (xB 95) 11 = .ok (.goto 13, 3) := by decide +kernel
theorem d_95_14 : decode (xB 95) 14 = .ok (.aload_n 0, 1) := by decide +kernel
theorem d_95_15 : decode (xB 95) 15 = .ok (.iconst 0, 1) := by decide +kernel
theorem d_95_16 : decode (xB 95) 16 = .ok (.putfield 162, 3) := by decide +kernel
theorem d_95_19 : decode (xB 95) 19 = .ok (.aload_n 0, 1) := by decide +kernel
theorem d_95_20 : decode (xB 95) 20 = .ok (.iconst 0, 1) := by decide +kernel
theorem d_95_21 : decode (xB 95) 21 = .ok (.putfield 147, 3) := by decide +kernel
theorem d_95_24 : decode (xB 95) 24 = .ok (.aload_n 0, 1) := by decide +kernel
theorem d_95_25 : decode (xB 95) 25 = .ok (.iconst 1, 1) := by decide +kernel
theorem d_95_26 : decode (xB 95) 26 = .ok (.putfield 77, 3) := by decide +kernel
theorem d_95_29 : decode (xB 95) 29 = .ok (.aload_n 0, 1) := by decide +kernel
theorem d_95_30 : decode (xB 95) 30 = .ok (.iload_n 1, 1) := by decide +kernel
theorem d_95_31 : decode (xB 95) 31 = .ok (.iload_n 2, 1) := by decide +kernel
theorem d_95_32 : decode (xB 95) 32 = .ok (.invokevirtual 150, 3) := by decide +kernel
theorem d_95_35 : decode (xB 95) 35 = .ok (.istore_n 3, 1) := by decide +kernel
theorem d_95_36 : decode (xB 95) 36 = .ok (.aload_n 0, 1) := by decide +kernel
theorem d_95_37 : decode (xB 95) 37 = .ok (.aload_n 0, 1) := by decide +kernel
theorem d_95_38 : decode (xB 95) 38 = .ok (.getfield 130, 3) := by decide +kernel
theorem d_95_41 : decode (xB 95) 41 = .ok (.putfield 171, 3) := by decide +kernel
theorem d_95_44 : decode (xB 95) 44 = .ok (.aload_n 0, 1) := by decide +kernel
theorem d_95_45 : decode (xB 95) 45 = .ok (.aload_n 0, 1) := by decide +kernel
theorem d_95_46 : decode (xB 95) 46 = .ok (.getfield 134, 3) := by decide +kernel
theorem d_95_49 : decode (xB 95) 49 = .ok (.putfield 174, 3) := by decide +kernel
theorem d_95_52 : decode (xB 95) 52 = .ok (.aload_n 0, 1) := by decide +kernel
theorem d_95_53 : decode (xB 95) 53 = .ok (.aload_n 0, 1) := by decide +kernel
theorem d_95_54 : decode (xB 95) 54 = .ok (.getfield 130, 3) := by decide +kernel
theorem d_95_57 : decode (xB 95) 57 = .ok (.putfield 165, 3) := by decide +kernel
theorem d_95_60 : decode (xB 95) 60 = .ok (.aload_n 0, 1) := by decide +kernel
theorem d_95_61 : decode (xB 95) 61 = .ok (.aload_n 0, 1) := by decide +kernel
theorem d_95_62 : decode (xB 95) 62 = .ok (.getfield 134, 3) := by decide +kernel
theorem d_95_65 : decode (xB 95) 65 = .ok (.putfield 168, 3) := by decide +kernel
theorem d_95_68 : decode (xB 95) 68 = .ok (.return_, 1) := by decide +kernel
theorem d_96_0 : decode (xB 96) 0 = .ok (.aload_n 0, 1) := by decide +kernel
theorem d_96_1 : decode (xB 96) 1 = .ok (.getfield 77, 3) := by decide +kernel
theorem d_96_4 : decode (xB 96) 4 = .ok (.ifCond .eq 40, 3) := by decide +kernel
theorem d_96_7 : decode (xB 96) 7 = .ok (.aload_n 0, 1) := by decide +kernel
theorem d_96_8 : decode (xB 96) 8 = .ok (.getfield 165, 3) := by decide +kernel
theorem d_96_11 : decode (xB 96) 11 = .ok (.aload_n 0, 1) := by decide +kernel
theorem d_96_12 : decode (xB 96) 12 = .ok (.getfield 171, 3) := by decide +kernel
theorem d_96_15 : decode (xB 96) 15 = .ok (.lcmp, 1) := by decide +kernel
theorem d_96_16 : decode (xB 96) 16 = .ok (.ifCond .ne 15, 3) := by decide +kernel
theorem d_96_19 : decode (xB 96) 19 = .ok (.aload_n 0, 1) := by decide +kernel
theorem d_96_20 : decode (xB 96) 20 = .ok (.getfield 168, 3) := by decide +kernel
theorem d_96_23 : decode (xB 96) 23 = .ok (.aload_n 0, 1) := by decide +kernel
theorem d_96_24 : decode (xB 96) 24 = .ok (.getfield 174, 3) := by decide +kernel
theorem d_96_27 : decode (xB 96) 27 = .ok (.lcmp, 1) := by decide +kernel
theorem d_96_28 : decode (xB 96) 28 = .ok (.ifCond .eq 16, 3) := by decide +kernel
theorem d_96_31 : decode (xB 96) 31 = .ok (.aload_n 0, 1) := by decide +kernel
theorem d_96_32 : decode (xB 96) 32 = .ok (.aload_n 0, 1) := by decide +kernel
theorem d_96_33 : decode (xB 96) 33 = .ok (.getfield 171, 3) := by decide +kernel
theorem d_96_36 : decode (xB 96) 36 = .ok (.aload_n 0, 1) := by decide +kernel
theorem d_96_37 : decode (xB 96) 37 = .ok (.getfield 174, 3) := by decide +kernel
theorem d_96_40 : decode (xB 96) 40 = .ok (.iconst 0, 1) := by decide +kernel
theorem d_96_41 : decode (xB 96) 41 = .ok (.invokevirtual 177, 3) := by decide +kernel
theorem d_96_44 : decode (xB 96) 44 = .ok (.return_, 1) := by decide +kernel
theorem d_97_0 : decode (xB 97) 0 = .ok (.aload_n 0, 1) := by decide +kernel
theorem d_97_1 : decode (xB 97) 1 = .ok (.getfield 33, 3) := by decide +kernel
theorem d_97_4 : decode (xB 97) 4 = .ok (.aload_n 0, 1) := by decide +kernel
theorem d_97_5 : decode (xB 97) 5 = .ok (.getfield 162, 3) := by decide +kernel
theorem d_97_8 : decode (xB 97) 8 = .ok (.aload_n 0, 1) := by decide +kernel
theorem d_97_9 : decode (xB 97) 9 = .ok (.getfield 165, 3) := by decide +kernel
theorem d_97_12 : decode (xB 97) 12 = .ok (.lastore, 1) := by decide +kernel
theorem d_97_13 : decode (xB 97) 13 = .ok (.aload_n 0, 1) := by decide +kernel
theorem d_97_14 : decode (xB 97) 14 = .ok (.getfield 36, 3) := by decide +kernel
theorem d_97_17 : decode (xB 97) 17 = .ok (.aload_n 0, 1) := by decide +kernel
theorem d_97_18 : decode (xB 97) 18 = .ok (.getfield 162, 3) := by decide +kernel
theorem d_97_21 : decode (xB 97) 21 = .ok (.aload_n 0, 1) := by decide +kernel
theorem d_97_22 : decode (xB 97) 22 = .ok (.getfield 168, 3) := by decide +kernel
theorem d_97_25 : decode (xB 97) 25 = .ok (.lastore, 1) := by decide +kernel
theorem d_97_26 : decode (xB 97) 26 = .ok (.aload_n 0, 1) := by decide +kernel
theorem d_97_27 : decode (xB 97) 27 = .ok (.getfield 39, 3) := by decide +kernel
theorem d_97_30 : decode (xB 97) 30 = .ok (.aload_n 0, 1) := by decide +kernel
theorem d_97_31 : decode (xB 97) 31 = .ok (.getfield 162, 3) := by decide +kernel
theorem d_97_34 : decode (xB 97) 34 = .ok (.lload_n 1, 1) := by decide +kernel
theorem d_97_35 : decode (xB 97) 35 = .ok (.lastore, 1) := by decide +kernel
theorem d_97_36 : decode (xB 97) 36 = .ok (.aload_n 0, 1) := by decide +kernel
theorem d_97_37 : decode (xB 97) 37 = .ok (.getfield 42, 3) := by decide +kernel
theorem d_97_40 : decode (xB 97) 40 = .ok (.aload_n 0, 1) := by decide +kernel
theorem d_97_41 : decode (xB 97) 41 = .ok (.getfield 162, 3) := by decide +kernel
theorem d_97_44 : decode (xB 97) 44 = .ok (.lload_n 3, 1) := by decide +kernel
theorem d_97_45 : decode (xB 97) 45 = .ok (.lastore, 1) := by decide +kernel
theorem d_97_46 : decode (xB 97) 46 = .ok (.aload_n 0, 1) := by decide +kernel
theorem d_97_47 : decode (xB 97) 47 = .ok (.dup, 1) := by decide +kernel
theorem d_97_48 : decode (xB 97) 48 = .ok (.getfield 162, 3) := by decide +kernel
theorem d_97_51 : decode (xB 97) 51 = .ok (.iconst 1, 1) := by decide +kernel
theorem d_97_52 : decode (xB 97) 52 = .ok (.iadd, 1) := by decide +kernel
theorem d_97_53 : decode (xB 97) 53 = .ok (.putfield 162, 3) := by decide +kernel
theorem d_97_56 : decode (xB 97) 56 = .ok (.iload 5, 2) := by decide +kernel
theorem d_97_58 : decode (xB 97) 58 = .ok (.ifCond .eq 13, 3) := by decide +kernel
theorem d_97_61 : decode (xB 97) 61 = .ok (.aload_n 0, 1) := by decide +kernel
theorem d_97_62 : decode (xB 97) 62 = .ok (.dup, 1) := by decide +kernel
theorem d_97_63 : decode (xB 97) 63 = .ok (.getfield 147, 3) := by decide +kernel
theorem d_97_66 : decode (xB 97) 66 = .ok (.iconst 1, 1) := by decide +kernel
theorem d_97_67 : decode (xB 97) 67 = .ok (.iadd, 1) := by decide +kernel
theorem d_97_68 : decode (xB 97) 68 = .ok (.putfield 147, 3) := by decide +kernel
theorem d_97_71 : decode (xB 97) 71 = .ok (.aload_n 0, 1) := by decide +kernel
theorem d_97_72 : decode (xB 97) 72 = .ok (.lload_n 1, 1) := by decide +kernel
theorem d_97_73 : decode (xB 97) 73 = .ok (.putfield 165, 3) := by decide +kernel
theorem d_97_76 : decode (xB 97) 76 = .ok (.aload_n 0, 1) := by decide +kernel
theorem d_97_77 : decode (xB 97) 77 = .ok (.lload_n 3, 1) := by decide +kernel
theorem d_97_78 : decode (xB 97) 78 = .ok (.putfield 168, 3) := by decide +kernel
theorem d_97_81 : decode (xB 97) 81 = .ok (.return_, 1) := by decide +kernel
theorem d_98_0 : decode (xB 98) 0 = .ok (.aload_n 0, 1) := by decide +kernel
theorem d_98_1 : decode (xB 98) 1 = .ok (.iload_n 1, 1) := by decide +kernel
theorem d_98_2 : decode (xB 98) 2 = .ok (.iload_n 2, 1) := by decide +kernel
theorem d_98_3 : decode (xB 98) 3 = .ok (.invokevirtual 150, 3) := by decide +kernel
theorem d_98_6 : decode (xB 98) 6 = .ok (.istore_n 3, 1) := by decide +kernel
theorem d_98_7 : decode (xB 98) 7 = .ok (.aload_n 0, 1) := by decide +kernel
theorem d_98_8 : decode (xB 98) 8 = .ok (.aload_n 0, 1) := by decide +kernel
theorem d_98_9 : decode (xB 98) 9 = .ok (.getfield 130, 3) := by decide +kernel
theorem d_98_12 : decode (xB 98) 12 = .ok (.aload_n 0, 1) := by decide +kernel
theorem d_98_13 : decode (xB 98) 13 = .ok (.getfield 134, 3) := by decide +kernel
theorem d_98_16 : decode (xB 98) 16 = .ok (.iconst 1, 1) := by decide +kernel
theorem d_98_17 : decode (xB 98) 17 = .ok (.invokevirtual 177, 3) := by decide +kernel
theorem d_98_20 : decode (xB 98) 20 = .ok (.return_, 1) := by decide +kernel
theorem d_99_0 : decode (xB 99) 0 = .ok (.aload_n 0, 1) := by decide +kernel
theorem d_99_1 : decode (xB 99) 1 = .ok (.getfield 45, 3) := by decide +kernel
theorem d_99_4 : decode (xB 99) 4 = .ok (.astore_n 1, 1) := by decide +kernel
theorem d_99_5 : decode (xB 99) 5 = .ok (.aload_n 0, 1) := by decide +kernel
theorem d_99_6 : decode (xB 99) 6 = .ok (.getfield 165, 3) := by decide +kernel
theorem d_99_9 : decode (xB 99) 9 = .ok (.lstore_n 2, 1) := by decide +kernel
theorem d_99_10 : decode (xB 99) 10 = .ok (.aload_n 0, 1) := by decide +kernel
theorem d_99_11 : decode (xB 99) 11 = .ok (.getfield 168, 3) := by decide +kernel
theorem d_99_14 : decode (xB 99) 14 = .ok (.lstore 4, 2) := by decide +kernel
theorem d_99_16 : decode (xB 99) 16 = .ok (.aload_n 0, 1) := by decide +kernel
theorem d_99_17 : decode (xB 99) 17 = .ok (.aload_n 1, 1) := by decide +kernel
theorem d_99_18 : decode (xB 99) 18 = .ok (.iconst 0, 1) := by decide +kernel
theorem d_99_19 : decode (xB 99) 19 = .ok (.iaload, 1) := by decide +kernel
theorem d_99_20 : decode (xB 99) 20 = .ok (.aload_n 1, 1) := by decide +kernel
theorem d_99_21 : decode (xB 99) 21 = .ok (.iconst 1, 1) := by decide +kernel
theorem d_99_22 : decode (xB 99) 22 = .ok (.iaload, 1) := by decide +kernel
theorem d_99_23 : decode (xB 99) 23 = .ok (.invokevirtual 150, 3) := by decide +kernel
theorem d_99_26 : decode (xB 99) 26 = .ok (.istore 6, 2) := by decide +kernel
theorem d_99_28 : decode (xB 99) 28 = .ok (.aload_n 0, 1) := by decide +kernel
theorem d_99_29 : decode (xB 99) 29 = .ok (.getfield 130, 3) := by decide +kernel
theorem d_99_32 : decode (xB 99) 32 = .ok (.lstore 7, 2) := by decide +kernel
theorem d_99_34 : decode (xB 99) 34 = .ok (.aload_n 0, 1) := by decide +kernel
theorem d_99_35 : decode (xB 99) 35 = .ok (.getfield 134, 3) := by decide +kernel
theorem d_99_38 : decode (xB 99) 38 = .ok (.lstore 9, 2) := by decide +kernel
theorem d_99_40 : decode (xB 99) 40 = .ok (.aload_n 0, 1) := by decide +kernel
theorem d_99_41 : decode (xB 99) 41 = .ok (.aload_n 1, 1) := by decide +kernel
theorem d_99_42 : decode (xB 99) 42 = .ok (.iconst 2, 1) := by decide +kernel
theorem d_99_43 : decode (xB 99) 43 = .ok (.iaload, 1) := by decide +kernel
theorem d_99_44 : decode (xB 99) 44 = .ok (.aload_n 1, 1) := by decide +kernel
theorem d_99_45 : decode (xB 99) 45 = .ok (.iconst 3, 1) := by decide +kernel
theorem d_99_46 : decode (xB 99) 46 = .ok (.iaload, 1) := by decide +kernel
theorem d_99_47 : decode (xB 99) 47 = .ok (.invokevirtual 150, 3) := by decide +kernel
theorem d_99_50 : decode (xB 99) 50 = .ok (.istore 6, 2) := by decide +kernel
theorem d_99_52 : decode (xB 99) 52 = .ok (.aload_n 0, 1) := by decide +kernel
theorem d_99_53 : decode (xB 99) 53 = .ok (.getfield 130, 3) := by decide +kernel
theorem d_99_56 : decode (xB 99) 56 = .ok (.lstore 11, 2) := by decide +kernel
theorem d_99_58 : decode (xB 99) 58 = .ok (.aload_n 0, 1) := by decide +kernel
theorem d_99_59 : decode (xB 99) 59 = .ok (.getfield 134, 3) := by decide +kernel
theorem d_99_62 : decode (xB 99) 62 = .ok (.lstore 13, 2) := by decide +kernel
theorem d_99_64 : decode (xB 99) 64 = .ok (.aload_n 0, 1) := by decide +kernel
theorem d_99_65 : decode (xB 99) 65 = .ok (.aload_n 1, 1) := by decide +kernel
theorem d_99_66 : decode (xB 99) 66 = .ok (.iconst 4, 1) := by decide +kernel
theorem d_99_67 : decode (xB 99) 67 = .ok (.iaload, 1) := by decide +kernel
theorem d_99_68 : decode (xB 99) 68 = .ok (.aload_n 1, 1) := by decide +kernel
theorem d_99_69 : decode (xB 99) 69 = .ok (.iconst 5, 1) := by decide +kernel
theorem d_99_70 : decode (xB 99) 70 = .ok (.iaload, 1) := by decide +kernel
theorem d_99_71 : decode (xB 99) 71 = .ok (.invokevirtual 150, 3) := by decide +kernel
theorem d_99_74 : decode (xB 99) 74 = .ok (.istore 6, 2) := by decide +kernel
theorem d_99_76 : decode (xB 99) 76 = .ok (.aload_n 0, 1) := by decide +kernel
theorem d_99_77 : decode (xB 99) 77 = .ok (.getfield 130, 3) := by decide +kernel
theorem d_99_80 : decode (xB 99) 80 = .ok (.lstore 15, 2) := by decide +kernel
theorem d_99_82 : decode (xB 99) 82 = .ok (.aload_n 0, 1) := by decide +kernel
theorem d_99_83 : decode (xB 99) 83 = .ok (.getfield 134, 3) := by decide +kernel
theorem d_99_86 : decode (xB 99) 86 = .ok (.lstore 17, 2) := by decide +kernel
theorem d_99_88 : decode (xB 99) 88 = .ok (.iconst 1, 1) := by decide +kernel
theorem d_99_89 : decode (xB 99) 89 = .ok (.istore 19, 2) := by decide +kernel
theorem d_99_91 : decode (xB 99) 91 = .ok (.iload 19, 2) := by decide +kernel
theorem d_99_93 : decode (xB 99) 93 = .ok (.iconst 4, 1) := by decide +kernel
theorem d_99_94 : decode (xB 99) 94 = .ok (.if_icmp .gt 41, 3) := by decide +kernel
theorem d_99_97 : decode (xB 99) 97 = .ok (.aload_n 0, 1) := by decide +kernel
theorem d_99_98 : decode (xB 99) 98 = .ok (.lload_n 2, 1) := by decide +kernel
theorem d_99_99 : decode (xB 99) 99 = .ok (.lload 7, 2) := by decide +kernel
theorem d_99_101 : decode (xB 99) 101 = .ok (.lload 11, 2) := by decide +kernel
theorem d_99_103 : decode (xB 99) 103 = .ok (.lload 15, 2) := by decide +kernel
theorem d_99_105 : decode (xB 99) 105 = .ok (.iload 19, 2) := by decide +kernel
theorem d_99_107 : decode (xB 99) 107 = .ok (.i2l, 1) := by decide +kernel
theorem d_99_108 : decode (xB 99) 108 = .ok (.invokestatic 190, 3) := by decide +kernel
theorem d_99_111 : decode (xB 99) 111 = .ok (.lload 4, 2) := by decide +kernel
theorem d_99_113 : decode (xB 99) 113 = .ok (.lload 9, 2) := by decide +kernel
theorem d_99_115 : decode (xB 99) 115 = .ok (.lload 13, 2) := by decide +kernel
theorem d_99_117 : decode (xB 99) 117 = .ok (.lload 17, 2) := by decide +kernel
theorem d_99_119 : decode (xB 99) 119 = .ok (.iload 19, 2) := by decide +kernel
theorem d_99_121 : decode (xB 99) 121 = .ok (.i2l, 1) := by decide +kernel
theorem d_99_122 : decode (xB 99) 122 = .ok (.invokestatic 190, 3) := by decide +kernel
theorem d_99_125 : decode (xB 99) 125 = .ok (.iconst 1, 1) := by decide +kernel
theorem d_99_126 : decode (xB 99) 126 = .ok (.invokevirtual 177, 3) := by decide +kernel
theorem d_99_129 : decode (xB 99) 129 = .ok (.iinc 19 1, 3) := by decide +kernel
theorem d_99_132 : decode (xB 99) 132 = .ok (.goto (-41), 3) := by decide +kernel
theorem d_99_135 : decode (xB 99) 135 = .ok (.return_, 1) := by decide +kernel
theorem d_100_0 : decode (xB 100) 0 = .ok (.ldc2_w 184, 3) := by decide +kernel
theorem d_100_3 : decode (xB 100) 3 = .ok (.lload 8, 2) := by decide +kernel
theorem d_100_5 : decode (xB 100) 5 = .ok (.lsub, 1) := by decide +kernel
theorem d_100_6 : decode (xB 100) 6 = .ok (.lstore 10, 2) := by decide +kernel
theorem d_100_8 : decode (xB 100) 8 = .ok (.lload_n 0, 1) := by decide +kernel
theorem d_100_9 : decode (xB 100) 9 = .ok (.lload 10, 2) := by decide +kernel
theorem d_100_11 : decode (xB 100) 11 = .ok (.lmul, 1) := by decide +kernel
theorem d_100_12 : decode (xB 100) 12 = .ok (.lload 10, 2) := by decide +kernel
theorem d_100_14 : decode (xB 100) 14 = .ok (.lmul, 1) := by decide +kernel
theorem d_100_15 : decode (xB 100) 15 = .ok (.lload 10, 2) := by decide +kernel
theorem d_100_17 : decode (xB 100) 17 = .ok (.lmul, 1) := by decide +kernel
theorem d_100_18 : decode (xB 100) 18 = .ok (.ldc2_w 186, 3) := by decide +kernel
theorem d_100_21 : decode (xB 100) 21 = .ok (.lload_n 2, 1) := by decide +kernel
theorem d_100_22 : decode (xB 100) 22 = .ok (.lmul, 1) := by decide +kernel
theorem d_100_23 : decode (xB 100) 23 = .ok (.lload 8, 2) := by decide +kernel
theorem d_100_25 : decode (xB 100) 25 = .ok (.lmul, 1) := by decide +kernel
theorem d_100_26 : decode (xB 100) 26 = .ok (.lload 10, 2) := by decide +kernel
theorem d_100_28 : decode (xB 100) 28 = .ok (.lmul, 1) := by decide +kernel
theorem d_100_29 : decode (xB 100) 29 = .ok (.lload 10, 2) := by decide +kernel
theorem d_100_31 : decode (xB 100) 31 = .ok (.lmul, 1) := by decide +kernel
theorem d_100_32 : decode (xB 100) 32 = .ok (.ladd, 1) := by decide +kernel
theorem d_100_33 : decode (xB 100) 33 = .ok (.ldc2_w 186, 3) := by decide +kernel
theorem d_100_36 : decode (xB 100) 36 = .ok (.lload 4, 2) := by decide +kernel
theorem d_100_38 : decode (xB 100) 38 = .ok (.lmul, 1) := by decide +kernel
theorem d_100_39 : decode (xB 100) 39 = .ok (.lload 8, 2) := by decide +kernel
theorem d_100_41 : decode (xB 100) 41 = .ok (.lmul, 1) := by decide +kernel
theorem d_100_42 : decode (xB 100) 42 = .ok (.lload 8, 2) := by decide +kernel
theorem d_100_44 : decode (xB 100) 44 = .ok (.lmul, 1) := by decide +kernel
theorem d_100_45 : decode (xB 100) 45 = .ok (.lload 10, 2) := by decide +kernel
theorem d_100_47 : decode (xB 100) 47 = .ok (.lmul, 1) := by decide +kernel
theorem d_100_48 : decode (xB 100) 48 = .ok (.ladd, 1) := by decide +kernel
theorem d_100_49 : decode (xB 100) 49 = .ok (.lload 6, 2) := by decide +kernel
theorem d_100_51 : decode (xB 100) 51 = .ok (.lload 8, 2) := by decide +kernel
theorem d_100_53 : decode (xB 100) 53 = .ok (.lmul, 1) := by decide +kernel
theorem d_100_54 : decode (xB 100) 54 = .ok (.lload 8, 2) := by decide +kernel
theorem d_100_56 : decode (xB 100) 56 = .ok (.lmul, 1) := by decide +kernel
theorem d_100_57 : decode (xB 100) 57 = .ok (.lload 8, 2) := by decide +kernel
theorem d_100_59 : decode (xB 100) 59 = .ok (.lmul, 1) := by decide +kernel
theorem d_100_60 : decode (xB 100) 60 = .ok (.ladd, 1) := by decide +kernel
theorem d_100_61 : decode (xB 100) 61 = .ok (.ldc2_w 188, 3) := by decide +kernel
theorem d_100_64 : decode (xB 100) 64 = .ok (.ladd, 1) := by decide +kernel
theorem d_100_65 : decode (xB 100) 65 = .ok (.lstore 12, 2) := by decide +kernel
theorem d_100_67 : decode (xB 100) 67 = .ok (.lload 12, 2) := by decide +kernel
theorem d_100_69 : decode (xB 100) 69 = .ok (.bipush 6, 2) := by decide +kernel
theorem d_100_71 : decode (xB 100) 71 = .ok (.lshr, 1) := by decide +kernel
theorem d_100_72 : decode (xB 100) 72 = .ok (.lreturn, 1) := by decide +kernel
theorem d_101_0 : decode (xB 101) 0 = .ok (.aload_n 0, 1) := by decide +kernel
theorem d_101_1 : decode (xB 101) 1 = .ok (.invokevirtual 181, 3) := by decide +kernel
theorem d_101_4 : decode (xB 101) 4 = .ok (.aload_n 0, 1) := by decide +kernel
theorem d_101_5 : decode (xB 101) 5 = .ok (.getfield 147, 3) := by decide +kernel
theorem d_101_8 : decode (xB 101) 8 = .ok (.aload_n 0, 1) := by decide +kernel
theorem d_101_9 : decode (xB 101) 9 = .ok (.getfield 90, 3) := by decide +kernel
theorem d_101_12 : decode (xB 101) 12 = .ok (.if_icmp .le 11, 3) := by decide +kernel
theorem d_101_15 : decode (xB 101) 15 = .ok (.aload_n 0, 1) := by decide +kernel
theorem d_101_16 : decode (xB 101) 16 = .ok (.aload_n 0, 1) := by decide +kernel
theorem d_101_17 : decode (xB 101) 17 = .ok (.getfield 147, 3) := by decide +kernel
theorem d_101_20 : decode (xB 101) 20 = .ok (.putfield 90, 3) := by decide +kernel
theorem d_101_23 : decode (xB 101) 23 = .ok (.iload_n 1, 1) := by decide +kernel
theorem d_101_24 : decode (xB 101) 24 = .ok (.bipush 13, 2) := by decide +kernel
theorem d_101_26 : decode (xB 101) 26 = .ok (.if_icmp .ge 13, 3) := by decide +kernel
theorem d_101_29 : decode (xB 101) 29 = .ok (.aload_n 0, 1) := by decide +kernel
theorem d_101_30 : decode (xB 101) 30 = .ok (.dup, 1) := by decide +kernel
theorem d_101_31 : decode (xB 101) 31 = .ok (.getfield 87, 3) := by decide +kernel
theorem d_101_34 : decode (xB 101) 34 = .ok (.iconst 1, 1) := by decide +kernel
theorem d_101_35 : decode (xB 101) 35 = .ok (.iadd, 1) := by decide +kernel
theorem d_101_36 : decode (xB 101) 36 = .ok (.putfield 87, 3) := by decide +kernel
theorem d_101_39 : decode (xB 101) 39 = .ok (.iconst 0, 1) := by decide +kernel
theorem d_101_40 : decode (xB 101) 40 = .ok (.istore_n 2, 1) := by decide +kernel
theorem d_101_41 : decode (xB 101) 41 = .ok (.iload_n 2, 1) := by decide +kernel
theorem d_101_42 : decode (xB 101) 42 = .ok (.aload_n 0, 1) := by decide +kernel
theorem d_101_43 : decode (xB 101) 43 = .ok (.getfield 68, 3) := by decide +kernel
theorem d_101_46 : decode (xB 101) 46 = .ok (.if_icmp .ge 127, 3) := by decide +kernel
theorem d_101_49 : decode (xB 101) 49 = .ok (.iconst 0, 1) := by decide +kernel
theorem d_101_50 : decode (xB 101) 50 = .ok (.istore_n 3, 1) := by decide +kernel
theorem d_101_51 : decode (xB 101) 51 = .ok (.iload_n 3, 1) := by decide +kernel
theorem d_101_52 : decode (xB 101) 52 = .ok (.aload_n 0, 1) := by decide +kernel
theorem d_101_53 : decode (xB 101) 53 = .ok (.getfield 65, 3) := by decide +kernel
theorem d_101_56 : decode (xB 101) 56 = .ok (.if_icmp .ge 111, 3) := by decide +kernel
theorem d_101_59 : decode (xB 101) 59 = .ok (.bipush 20, 2) := by decide +kernel
theorem d_101_61 : decode (xB 101) 61 = .ok (.iload_n 2, 1) := by decide +kernel
theorem d_101_62 : decode (xB 101) 62 = .ok (.imul, 1) := by decide +kernel
theorem d_101_63 : decode (xB 101) 63 = .ok (.iload_n 3, 1) := by decide +kernel
theorem d_101_64 : decode (xB 101) 64 = .ok (.iadd, 1) := by decide +kernel
theorem d_101_65 : decode (xB 101) 65 = .ok (.istore 4, 2) := by decide +kernel
theorem d_101_67 : decode (xB 101) 67 = .ok (.iload_n 1, 1) := by decide +kernel
theorem d_101_68 : decode (xB 101) 68 = .ok (.bipush 13, 2) := by decide +kernel
theorem d_101_70 : decode (xB 101) 70 = .ok (.if_icmp .ge 44, 3) := by decide +kernel
theorem d_101_73 : decode (xB 101) 73 = .ok (.aload_n 0, 1) := by decide +kernel
theorem d_101_74 : decode (xB 101) 74 = .ok (.getfield 16, 3) := by decide +kernel
theorem d_101_77 : decode (xB 101) 77 = .ok (.iload 4, 2) := by decide +kernel
theorem d_101_79 : decode (xB 101) 79 = .ok (.baload, 1) := by decide +kernel
theorem d_101_80 : decode (xB 101) 80 = .ok (.ifCond .eq 34, 3) := by decide +kernel
theorem d_101_83 : decode (xB 101) 83 = .ok (.aload_n 0, 1) := by decide +kernel
theorem d_101_84 : decode (xB 101) 84 = .ok (.iload_n 3, 1) := by decide +kernel
theorem d_101_85 : decode (xB 101) 85 = .ok (.iload_n 2, 1) := by decide +kernel
theorem d_101_86 : decode (xB 101) 86 = .ok (.iload_n 1, 1) := by decide +kernel
theorem d_101_87 : decode (xB 101) 87 = .ok (.bipush 12, 2) := by decide +kernel
theorem d_101_89 : decode (xB 101) 89 = .ok (.if_icmp .ne 7, 3) := by decide +kernel
theorem d_101_92 : decode (xB 101) 92 = .ok (.iconst 1, 1) := by decide +kernel
theorem d_101_93 : decode (xB 101) 93 = .ok (.goto 4, 3) := by decide +kernel
theorem d_101_96 : decode (xB 101) 96 = .ok (.iconst 0, 1) := by decide +kernel
theorem d_101_97 : decode (xB 101) 97 = .ok (.invokevirtual 196, 3) := by decide +kernel
theorem d_101_100 : decode (xB 101) 100 = .ok (.ifCond .eq 14, 3) := by decide +kernel
theorem d_101_103 : decode (xB 101) 103 = .ok (.aload_n 0, 1) := by decide +kernel
theorem d_101_104 : decode (xB 101) 104 = .ok (.getfield 13, 3) := by decide +kernel
theorem d_101_107 : decode (xB 101) 107 = .ok (.iload 4, 2) := by decide +kernel
theorem d_101_109 : decode (xB 101) 109 = .ok (.aload_n 0, 1) := by decide +kernel
theorem d_101_110 : decode (xB 101) 110 = .ok (.getfield 71, 3) := by decide +kernel
theorem d_101_113 : decode (xB 101) 113 = .ok (.iastore, 1) := by decide +kernel
theorem d_101_114 : decode (xB 101) 114 = .ok (.aload_n 0, 1) := by decide +kernel
theorem d_101_115 : decode (xB 101) 115 = .ok (.getfield 81, 3) := by decide +kernel
theorem d_101_118 : decode (xB 101) 118 = .ok (.ifCond .le 43, 3) := by decide +kernel
theorem d_101_121 : decode (xB 101) 121 = .ok (.aload_n 0, 1) := by decide +kernel
theorem d_101_122 : decode (xB 101) 122 = .ok (.getfield 16, 3) := by decide +kernel
theorem d_101_125 : decode (xB 101) 125 = .ok (.iload 4, 2) := by decide +kernel
theorem d_101_127 : decode (xB 101) 127 = .ok (.baload, 1) := by decide +kernel
theorem d_101_128 : decode (xB 101) 128 = .ok (.ifCond .eq 33, 3) := by decide +kernel
theorem d_101_131 : decode (xB 101) 131 = .ok (.aload_n 0, 1) := by decide +kernel
theorem d_101_132 : decode (xB 101) 132 = .ok (.iload_n 3, 1) := by decide +kernel
theorem d_101_133 : decode (xB 101) 133 = .ok (.iload_n 2, 1) := by decide +kernel
theorem d_101_134 : decode (xB 101) 134 = .ok (.aload_n 0, 1) := by decide +kernel
theorem d_101_135 : decode (xB 101) 135 = .ok (.getfield 81, 3) := by decide +kernel
theorem d_101_138 : decode (xB 101) 138 = .ok (.iconst 2, 1) := by decide +kernel
theorem d_101_139 : decode (xB 101) 139 = .ok (.if_icmp .ne 7, 3) := by decide +kernel
theorem d_101_142 : decode (xB 101) 142 = .ok (.iconst 1, 1) := by decide +kernel
theorem d_101_143 : decode (xB 101) 143 = .ok (.goto 4, 3) := by decide +kernel
theorem d_101_146 : decode (xB 101) 146 = .ok (.iconst 0, 1) := by decide +kernel
theorem d_101_147 : decode (xB 101) 147 = .ok (.invokevirtual 196, 3) := by decide +kernel
theorem d_101_150 : decode (xB 101) 150 = .ok (.ifCond .ne 11, 3) := by decide +kernel
theorem d_101_153 : decode (xB 101) 153 = .ok (.aload_n 0, 1) := by decide +kernel
theorem d_101_154 : decode (xB 101) 154 = .ok (.getfield 16, 3) := by decide +kernel
theorem d_101_157 : decode (xB 101) 157 = .ok (.iload 4, 2) := by decide +kernel
theorem d_101_159 : decode (xB 101) 159 = .ok (.iconst 0, 1) := by decide +kernel
theorem d_101_160 : decode (xB 101) 160 = .ok (.bastore, 1) := by decide +kernel
theorem d_101_161 : decode (xB 101) 161 = .ok (.iinc 3 1, 3) := by decide +kernel
theorem d_101_164 : decode (xB 101) 164 = .ok (.goto (-113), 3) := by decide +kernel
theorem d_101_167 : decode (xB 101) 167 = .ok (.iinc 2 1, 3) := by decide +kernel
theorem d_101_170 : decode (xB 101) 170 = .ok (.goto (-129), 3) := by decide +kernel
theorem d_101_173 : decode (xB 101) 173 = .ok (.aload_n 0, 1) := by decide +kernel
theorem d_101_174 : decode (xB 101) 174 = .ok (.iconst 0, 1) := by decide +kernel
theorem d_101_175 : decode (xB 101) 175 = .ok (.putfield 77, 3) := by decide +kernel
theorem d_101_178 : decode (xB 101) 178 = .ok (.aload_n 0, 1) := by decide +kernel
theorem d_101_179 : decode (xB 101) 179 = .ok (.iconst 0, 1) := by decide +kernel
theorem d_101_180 : decode (xB 101) 180 = .ok (.putfield 81, 3) := by decide +kernel
theorem d_101_183 : decode (xB 101) 183 = .ok (.return_, 1) := by decide +kernel
theorem d_102_0 : decode (xB 102) 0 = .ok (.iconst 0, 1) := by decide +kernel
theorem d_102_1 : decode (xB 102) 1 = .ok (.istore 4, 2) := by decide +kernel
theorem d_102_3 : decode (xB 102) 3 = .ok (.iconst 0, 1) := by decide +kernel
theorem d_102_4 : decode (xB 102) 4 = .ok (.istore 5, 2) := by decide +kernel
theorem d_102_6 : decode (xB 102) 6 = .ok (.iconst 0, 1) := by decide +kernel
theorem d_102_7 : decode (xB 102) 7 = .ok (.istore 6, 2) := by decide +kernel
theorem d_102_9 : decode (xB 102) 9 = .ok (.iload 6, 2) := by decide +kernel
theorem d_102_11 : decode (xB 102) 11 = .ok (.aload_n 0, 1) := by decide +kernel
theorem d_102_12 : decode (xB 102) 12 = .ok (.getfield 162, 3) := by decide +kernel
theorem d_102_15 : decode (xB 102) 15 = .ok (.if_icmp .ge 229, 3) := by decide +kernel
theorem d_102_18 : decode (xB 102) 18 = .ok (.aload_n 0, 1) := by decide +kernel
theorem d_102_19 : decode (xB 102) 19 = .ok (.getfield 36, 3) := by decide +kernel
theorem d_102_22 : decode (xB 102) 22 = .ok (.iload 6, 2) := by decide +kernel
theorem d_102_24 : decode (xB 102) 24 = .ok (.laload, 1) := by decide +kernel
theorem d_102_25 : decode (xB 102) 25 = .ok (.aload_n 0, 1) := by decide +kernel
theorem d_102_26 : decode (xB 102) 26 = .ok (.getfield 42, 3) := by decide +kernel
theorem d_102_29 : decode (xB 102) 29 = .ok (.iload 6, 2) := by decide +kernel
theorem d_102_31 : decode (xB 102) 31 = .ok (.laload, 1) := by decide +kernel
theorem d_102_32 : decode (xB 102) 32 = .ok (.lcmp, 1) := by decide +kernel
theorem d_102_33 : decode (xB 102) 33 = .ok (.ifCond .ge 13, 3) := by decide +kernel
theorem d_102_36 : decode (xB 102) 36 = .ok (.aload_n 0, 1) := by decide +kernel
theorem d_102_37 : decode (xB 102) 37 = .ok (.getfield 36, 3) := by decide +kernel
theorem d_102_40 : decode (xB 102) 40 = .ok (.iload 6, 2) := by decide +kernel
theorem d_102_42 : decode (xB 102) 42 = .ok (.laload, 1) := by decide +kernel
theorem d_102_43 : decode (xB 102) 43 = .ok (.goto 10, 3) := by decide +kernel
theorem d_102_46 : decode (xB 102) 46 = .ok (.aload_n 0, 1) := by decide +kernel
theorem d_102_47 : decode (xB 102) 47 = .ok (.getfield 42, 3) := by decide +kernel
theorem d_102_50 : decode (xB 102) 50 = .ok (.iload 6, 2) := by decide +kernel
theorem d_102_52 : decode (xB 102) 52 = .ok (.laload, 1) := by decide +kernel
theorem d_102_53 : decode (xB 102) 53 = .ok (.lstore 7, 2) := by decide +kernel
theorem d_102_55 : decode (xB 102) 55 = .ok (.aload_n 0, 1) := by decide +kernel
theorem d_102_56 : decode (xB 102) 56 = .ok (.getfield 36, 3) := by decide +kernel
theorem d_102_59 : decode (xB 102) 59 = .ok (.iload 6, 2) := by decide +kernel
theorem d_102_61 : decode (xB 102) 61 = .ok (.laload, 1) := by decide +kernel
theorem d_102_62 : decode (xB 102) 62 = .ok (.aload_n 0, 1) := by decide +kernel
theorem d_102_63 : decode (xB 102) 63 = .ok (.getfield 42, 3) := by decide +kernel
theorem d_102_66 : decode (xB 102) 66 = .ok (.iload 6, 2) := by decide +kernel
theorem d_102_68 : decode (xB 102) 68 = .ok (.laload, 1) := by decide +kernel
theorem d_102_69 : decode (xB 102) 69 = .ok (.lcmp, 1) := by decide +kernel
theorem d_102_70 : decode (xB 102) 70 = .ok (.ifCond .ge 13, 3) := by decide +kernel
theorem d_102_73 : decode (xB 102) 73 = .ok (.aload_n 0, 1) := by decide +kernel
theorem d_102_74 : decode (xB 102) 74 = .ok (.getfield 42, 3) := by decide +kernel
theorem d_102_77 : decode (xB 102) 77 = .ok (.iload 6, 2) := by decide +kernel
theorem d_102_79 : decode (xB 102) 79 = .ok (.laload, 1) := by decide +kernel
theorem d_102_80 : decode (xB 102) 80 = .ok (.goto 10, 3) := by decide +kernel
theorem d_102_83 : decode (xB 102) 83 = .ok (.aload_n 0, 1) := by decide +kernel
theorem d_102_84 : decode (xB 102) 84 = .ok (.getfield 36, 3) := by decide +kernel
theorem d_102_87 : decode (xB 102) 87 = .ok (.iload 6, 2) := by decide +kernel
theorem d_102_89 : decode (xB 102) 89 = .ok (.laload, 1) := by decide +kernel
theorem d_102_90 : decode (xB 102) 90 = .ok (.lstore 9, 2) := by decide +kernel
theorem d_102_92 : decode (xB 102) 92 = .ok (.iload_n 2, 1) := by decide +kernel
theorem d_102_93 : decode (xB 102) 93 = .ok (.i2l, 1) := by decide +kernel
theorem d_102_94 : decode (xB 102) 94 = .ok (.lload 7, 2) := by decide +kernel
theorem d_102_96 : decode (xB 102) 96 = .ok (.lcmp, 1) := by decide +kernel
theorem d_102_97 : decode (xB 102) 97 = .ok (.ifCond .lt 141, 3) := by decide +kernel
theorem d_102_100 : decode (xB 102) 100 = .ok (.iload_n 2, 1) := by decide +kernel
theorem d_102_101 : decode (xB 102) 101 = .ok (.i2l, 1) := by decide +kernel
theorem d_102_102 : decode (xB 102) 102 = .ok (.lload 9, 2) := by decide +kernel
theorem d_102_104 : decode (xB 102) 104 = .ok (.lcmp, 1) := by decide +kernel
theorem d_102_105 : decode (xB 102) 105 = .ok (.ifCond .lt 6, 3) := by decide +kernel
theorem d_102_108 : decode (xB 102) 108 = .ok (.goto 130, 3) := by decide +kernel
theorem d_102_111 : decode (xB 102) 111 = .ok (.ldc2_w 194, 3) := by decide +kernel
theorem d_102_114 : decode (xB 102) 114 = .ok (.aload_n 0, 1) := by decide +kernel
theorem d_102_115 : decode (xB 102) 115 = .ok (.getfield 33, 3) := by decide +kernel
theorem d_102_118 : decode (xB 102) 118 = .ok (.iload 6, 2) := by decide +kernel
theorem d_102_120 : decode (xB 102) 120 = .ok (.laload, 1) := by decide +kernel
theorem d_102_121 : decode (xB 102) 121 = .ok (.lmul, 1) := by decide +kernel
theorem d_102_122 : decode (xB 102) 122 = .ok (.iconst 2, 1) := by decide +kernel
theorem d_102_123 : decode (xB 102) 123 = .ok (.iload_n 1, 1) := by decide +kernel
theorem d_102_124 : decode (xB 102) 124 = .ok (.imul, 1) := by decide +kernel
theorem d_102_125 : decode (xB 102) 125 = .ok (.i2l, 1) := by decide +kernel
theorem d_102_126 : decode (xB 102) 126 = .ok (.lsub, 1) := by decide +kernel
theorem d_102_127 : decode (xB 102) 127 = .ok (.lconst 1, 1) := by decide +kernel
theorem d_102_128 : decode (xB 102) 128 = .ok (.lsub, 1) := by decide +kernel
theorem d_102_129 : decode (xB 102) 129 = .ok (.aload_n 0, 1) := by decide +kernel
theorem d_102_130 : decode (xB 102) 130 = .ok (.getfield 42, 3) := by decide +kernel
theorem d_102_133 : decode (xB 102) 133 = .ok (.iload 6, 2) := by decide +kernel
theorem d_102_135 : decode (xB 102) 135 = .ok (.laload, 1) := by decide +kernel
theorem d_102_136 : decode (xB 102) 136 = .ok (.aload_n 0, 1) := by decide +kernel
theorem d_102_137 : decode (xB 102) 137 = .ok (.getfield 36, 3) := by decide +kernel
theorem d_102_140 : decode (xB 102) 140 = .ok (.iload 6, 2) := by decide +kernel
theorem d_102_142 : decode (xB 102) 142 = .ok (.laload, 1) := by decide +kernel
theorem d_102_143 : decode (xB 102) 143 = .ok (.lsub, 1) := by decide +kernel
theorem d_102_144 : decode (xB 102) 144 = .ok (.lmul, 1) := by decide +kernel
theorem d_102_145 : decode (xB 102) 145 = .ok (.aload_n 0, 1) := by decide +kernel
theorem d_102_146 : decode (xB 102) 146 = .ok (.getfield 39, 3) := by decide +kernel
theorem d_102_149 : decode (xB 102) 149 = .ok (.iload 6, 2) := by decide +kernel
theorem d_102_151 : decode (xB 102) 151 = .ok (.laload, 1) := by decide +kernel
theorem d_102_152 : decode (xB 102) 152 = .ok (.aload_n 0, 1) := by decide +kernel
theorem d_102_153 : decode (xB 102) 153 = .ok (.getfield 33, 3) := by decide +kernel
theorem d_102_156 : decode (xB 102) 156 = .ok (.iload 6, 2) := by decide +kernel
theorem d_102_158 : decode (xB 102) 158 = .ok (.laload, 1) := by decide +kernel
theorem d_102_159 : decode (xB 102) 159 = .ok (.lsub, 1) := by decide +kernel
theorem d_102_160 : decode (xB 102) 160 = .ok (.iconst 2, 1) := by decide +kernel
theorem d_102_161 : decode (xB 102) 161 = .ok (.iload_n 2, 1) := by decide +kernel
theorem d_102_162 : decode (xB 102) 162 = .ok (.imul, 1) := by decide +kernel
theorem d_102_163 : decode (xB 102) 163 = .ok (.iconst 1, 1) := by decide +kernel
theorem d_102_164 : decode (xB 102) 164 = .ok (.iadd, 1) := by decide +kernel
theorem d_102_165 : decode (xB 102) 165 = .ok (.i2l, 1) := by decide +kernel
theorem d_102_166 : decode (xB 102) 166 = .ok (.ldc2_w 194, 3) := by decide +kernel
theorem d_102_169 : decode (xB 102) 169 = .ok (.aload_n 0, 1) := by decide +kernel
theorem d_102_170 : decode (xB 102) 170 = .ok (.getfield 36, 3) := by decide +kernel
theorem d_102_173 : decode (xB 102) 173 = .ok (.iload 6, 2) := by decide +kernel
theorem d_102_175 : decode (xB 102) 175 = .ok (.laload, 1) := by decide +kernel
theorem d_102_176 : decode (xB 102) 176 = .ok (.lmul, 1) := by decide +kernel
theorem d_102_177 : decode (xB 102) 177 = .ok (.lsub, 1) := by decide +kernel
theorem d_102_178 : decode (xB 102) 178 = .ok (.lmul, 1) := by decide +kernel
theorem d_102_179 : decode (xB 102) 179 = .ok (.ladd, 1) := by decide +kernel
theorem d_102_180 : decode (xB 102) 180 = .ok (.lstore 11, 2) := by decide +kernel
theorem d_102_182 : decode (xB 102) 182 = .ok (.aload_n 0, 1) := by decide +kernel
theorem d_102_183 : decode (xB 102) 183 = .ok (.getfield 42, 3) := by decide +kernel
theorem d_102_186 : decode (xB 102) 186 = .ok (.iload 6, 2) := by decide +kernel
theorem d_102_188 : decode (xB 102) 188 = .ok (.laload, 1) := by decide +kernel
theorem d_102_189 : decode (xB 102) 189 = .ok (.aload_n 0, 1) := by decide +kernel
theorem d_102_190 : decode (xB 102) 190 = .ok (.getfield 36, 3) := by decide +kernel
theorem d_102_193 : decode (xB 102) 193 = .ok (.iload 6, 2) := by decide +kernel
theorem d_102_195 : decode (xB 102) 195 = .ok (.laload, 1) := by decide +kernel
theorem d_102_196 : decode (xB 102) 196 = .ok (.lcmp, 1) := by decide +kernel
theorem d_102_197 : decode (xB 102) 197 = .ok (.ifCond .le 13, 3) := by decide +kernel
theorem d_102_200 : decode (xB 102) 200 = .ok (.lload 11, 2) := by decide +kernel
theorem d_102_202 : decode (xB 102) 202 = .ok (.lconst 0, 1) := by decide +kernel
theorem d_102_203 : decode (xB 102) 203 = .ok (.lcmp, 1) := by decide +kernel
theorem d_102_204 : decode (xB 102) 204 = .ok (.ifCond .le 6, 3) := by decide +kernel
theorem d_102_207 : decode (xB 102) 207 = .ok (.iinc 4 1, 3) := by decide +kernel
theorem d_102_210 : decode (xB 102) 210 = .ok (.aload_n 0, 1) := by decide +kernel
theorem d_102_211 : decode (xB 102) 211 = .ok (.getfield 42, 3) := by decide +kernel
theorem d_102_214 : decode (xB 102) 214 = .ok (.iload 6, 2) := by decide +kernel
theorem d_102_216 : decode (xB 102) 216 = .ok (.laload, 1) := by decide +kernel
theorem d_102_217 : decode (xB 102) 217 = .ok (.aload_n 0, 1) := by decide +kernel
theorem d_102_218 : decode (xB 102) 218 = .ok (.getfield 36, 3) := by decide +kernel
theorem d_102_221 : decode (xB 102) 221 = .ok (.iload 6, 2) := by decide +kernel
theorem d_102_223 : decode (xB 102) 223 = .ok (.laload, 1) := by decide +kernel
theorem d_102_224 : decode (xB 102) 224 = .ok (.lcmp, 1) := by decide +kernel
theorem d_102_225 : decode (xB 102) 225 = .ok (.ifCond .ge 13, 3) := by decide +kernel
theorem d_102_228 : decode (xB 102) 228 = .ok (.lload 11, 2) := by decide +kernel
theorem d_102_230 : decode (xB 102) 230 = .ok (.lconst 0, 1) := by decide +kernel
theorem d_102_231 : decode (xB 102) 231 = .ok (.lcmp, 1) := by decide +kernel
theorem d_102_232 : decode (xB 102) 232 = .ok (.ifCond .ge 6, 3) := by decide +kernel
theorem d_102_235 : decode (xB 102) 235 = .ok (.iinc 5 1, 3) := by decide +kernel
theorem d_102_238 : decode (xB 102) 238 = .ok (.iinc 6 1, 3) := by decide +kernel
theorem d_102_241 : decode (xB 102) 241 = .ok (.goto (-232), 3) := by decide +kernel
theorem d_102_244 : decode (xB 102) 244 = .ok (.iload_n 3, 1) := by decide +kernel
theorem d_102_245 : decode (xB 102) 245 = .ok (.ifCond .eq 22, 3) := by decide +kernel
theorem d_102_248 : decode (xB 102) 248 = .ok (.iload 4, 2) := by decide +kernel
theorem d_102_250 : decode (xB 102) 250 = .ok (.iload 5, 2) := by decide +kernel
theorem d_102_252 : decode (xB 102) 252 = .ok (.iadd, 1) := by decide +kernel
theorem d_102_253 : decode (xB 102) 253 = .ok (.iconst 2, 1) := by decide +kernel
theorem d_102_254 : decode (xB 102) 254 = .ok (.irem, 1) := by decide +kernel
theorem d_102_255 : decode (xB 102) 255 = .ok (.iconst 1, 1) := by decide +kernel
theorem d_102_256 : decode (xB 102) 256 = .ok (.if_icmp .ne 7, 3) := by decide +kernel
theorem d_102_259 : decode (xB 102) 259 = .ok (.iconst 1, 1) := by decide +kernel
theorem d_102_260 : decode (xB 102) 260 = .ok (.goto 19, 3) := by decide +kernel
theorem d_102_263 : decode (xB 102) 263 = .ok (.iconst 0, 1) := by decide +kernel
theorem d_102_264 : decode (xB 102) 264 = .ok (.goto 15, 3) := by decide +kernel
theorem d_102_267 : decode (xB 102) 267 = .ok (.iload 4, 2) := by decide +kernel
theorem d_102_269 : decode (xB 102) 269 = .ok (.iload 5, 2) := by decide +kernel
theorem d_102_271 : decode (xB 102) 271 = .ok (.if_icmp .eq 7, 3) := by decide +kernel
theorem d_102_274 : decode (xB 102) 274 = .ok (.iconst 1, 1) := by decide +kernel
theorem d_102_275 : decode (xB 102) 275 = .ok (.goto 4, 3) := by decide +kernel
theorem d_102_278 : decode (xB 102) 278 = .ok (.iconst 0, 1) := by decide +kernel
theorem d_102_279 : decode (xB 102) 279 = .ok (.ireturn, 1) := by decide +kernel
theorem d_103_0 : decode (xB 103) 0 = .ok (.aload_n 0, 1) := by decide +kernel
theorem d_103_1 : decode (xB 103) 1 = .ok (.getfield 99, 3) := by decide +kernel
theorem d_103_4 : decode (xB 103) 4 = .ok (.ireturn, 1) := by decide +kernel
theorem d_104_0 : decode (xB 104) 0 = .ok (.aload_n 0, 1) := by decide +kernel
theorem d_104_1 : decode (xB 104) 1 = .ok (.getfield 48, 3) := by decide +kernel
theorem d_104_4 : decode (xB 104) 4 = .ok (.ireturn, 1) := by decide +kernel
theorem d_105_0 : decode (xB 105) 0 = .ok (.iload_n 1, 1) := by decide +kernel
theorem d_105_1 : decode (xB 105) 1 = .ok (.ifCond .lt 23, 3) := by decide +kernel
theorem d_105_4 : decode (xB 105) 4 = .ok (.iload_n 1, 1) := by decide +kernel
theorem d_105_5 : decode (xB 105) 5 = .ok (.aload_n 0, 1) := by decide +kernel
theorem d_105_6 : decode (xB 105) 6 = .ok (.getfield 65, 3) := by decide +kernel
theorem d_105_9 : decode (xB 105) 9 = .ok (.if_icmp .ge 15, 3) := by decide +kernel
theorem d_105_12 : decode (xB 105) 12 = .ok (.iload_n 2, 1) := by decide +kernel
theorem d_105_13 : decode (xB 105) 13 = .ok (.ifCond .lt 11, 3) := by decide +kernel
theorem d_105_16 : decode (xB 105) 16 = .ok (.iload_n 2, 1) := by decide +kernel
theorem d_105_17 : decode (xB 105) 17 = .ok (.aload_n 0, 1) := by decide +kernel
theorem d_105_18 : decode (xB 105) 18 = .ok (.getfield 68, 3) := by decide +kernel
theorem d_105_21 : decode (xB 105) 21 = .ok (.if_icmp .lt 7, 3) := by decide +kernel
theorem d_105_24 : decode (xB 105) 24 = .ok (.iconst (-1), 1) := by decide +kernel
theorem d_105_25 : decode (xB 105) 25 = .ok (.goto 14, 3) := by decide +kernel
theorem d_105_28 : decode (xB 105) 28 = .ok (.aload_n 0, 1) := by decide +kernel
theorem d_105_29 : decode (xB 105) 29 = .ok (.getfield 13, 3) := by decide +kernel
theorem d_105_32 : decode (xB 105) 32 = .ok (.bipush 20, 2) := by decide +kernel
theorem d_105_34 : decode (xB 105) 34 = .ok (.iload_n 2, 1) := by decide +kernel
theorem d_105_35 : decode (xB 105) 35 = .ok (.imul, 1) := by decide +kernel
theorem d_105_36 : decode (xB 105) 36 = .ok (.iload_n 1, 1) := by decide +kernel
theorem d_105_37 : decode (xB 105) 37 = .ok (.iadd, 1) := by decide +kernel
theorem d_105_38 : decode (xB 105) 38 = .ok (.iaload, 1) := by decide +kernel
theorem d_105_39 : decode (xB 105) 39 = .ok (.ireturn, 1) := by decide +kernel
theorem d_106_0 : decode (xB 106) 0 = .ok (.iconst 0, 1) := by decide +kernel
theorem d_106_1 : decode (xB 106) 1 = .ok (.istore_n 2, 1) := by decide +kernel
theorem d_106_2 : decode (xB 106) 2 = .ok (.iconst 0, 1) := by decide +kernel
theorem d_106_3 : decode (xB 106) 3 = .ok (.istore_n 3, 1) := by decide +kernel
theorem d_106_4 : decode (xB 106) 4 = .ok (.iload_n 3, 1) := by decide +kernel
theorem d_106_5 : decode (xB 106) 5 = .ok (.aload_n 0, 1) := by decide +kernel
theorem d_106_6 : decode (xB 106) 6 = .ok (.getfield 68, 3) := by decide +kernel
theorem d_106_9 : decode (xB 106) 9 = .ok (.if_icmp .ge 46, 3) := by decide +kernel
theorem d_106_12 : decode (xB 106) 12 = .ok (.iconst 0, 1) := by decide +kernel
theorem d_106_13 : decode (xB 106) 13 = .ok (.istore 4, 2) := by decide +kernel
theorem d_106_15 : decode (xB 106) 15 = .ok (.iload 4, 2) := by decide +kernel
theorem d_106_17 : decode (xB 106) 17 = .ok (.aload_n 0, 1) := by decide +kernel
theorem d_106_18 : decode (xB 106) 18 = .ok (.getfield 65, 3) := by decide +kernel
theorem d_106_21 : decode (xB 106) 21 = .ok (.if_icmp .ge 28, 3) := by decide +kernel
theorem d_106_24 : decode (xB 106) 24 = .ok (.aload_n 0, 1) := by decide +kernel
theorem d_106_25 : decode (xB 106) 25 = .ok (.getfield 13, 3) := by decide +kernel
theorem d_106_28 : decode (xB 106) 28 = .ok (.bipush 20, 2) := by decide +kernel
theorem d_106_30 : decode (xB 106) 30 = .ok (.iload_n 3, 1) := by decide +kernel
theorem d_106_31 : decode (xB 106) 31 = .ok (.imul, 1) := by decide +kernel
theorem d_106_32 : decode (xB 106) 32 = .ok (.iload 4, 2) := by decide +kernel
theorem d_106_34 : decode (xB 106) 34 = .ok (.iadd, 1) := by decide +kernel
theorem d_106_35 : decode (xB 106) 35 = .ok (.iaload, 1) := by decide +kernel
theorem d_106_36 : decode (xB 106) 36 = .ok (.iload_n 1, 1) := by decide +kernel
theorem d_106_37 : decode (xB 106) 37 = .ok (.if_icmp .ne 6, 3) := by decide +kernel
theorem d_106_40 : decode (xB 106) 40 = .ok (.iinc 2 1, 3) := by decide +kernel
theorem d_106_43 : decode (xB 106) 43 = .ok (.iinc 4 1, 3) := by decide +kernel
theorem d_106_46 : decode (xB 106) 46 = .ok (.goto (-31), 3) := by decide +kernel
theorem d_106_49 : decode (xB 106) 49 = .ok (.iinc 3 1, 3) := by decide +kernel
theorem d_106_52 : decode (xB 106) 52 = .ok (.goto (-48), 3) := by decide +kernel
theorem d_106_55 : decode (xB 106) 55 = .ok (.iload_n 2, 1) := by decide +kernel
theorem d_106_56 : decode (xB 106) 56 = .ok (.ireturn, 1) := by decide +kernel
theorem d_107_0 : decode (xB 107) 0 = .ok (.aload_n 0, 1) := by decide +kernel
theorem d_107_1 : decode (xB 107) 1 = .ok (.getfield 87, 3) := by decide +kernel
theorem d_107_4 : decode (xB 107) 4 = .ok (.ireturn, 1) := by decide +kernel
theorem d_108_0 : decode (xB 108) 0 = .ok (.aload_n 0, 1) := by decide +kernel
theorem d_108_1 : decode (xB 108) 1 = .ok (.getfield 90, 3) := by decide +kernel
theorem d_108_4 : decode (xB 108) 4 = .ok (.ireturn, 1) := by decide +kernel
theorem d_109_0 : decode (xB 109) 0 = .ok (.aload_n 0, 1) := by decide +kernel
theorem d_109_1 : decode (xB 109) 1 = .ok (.getfield 93, 3) := by decide +kernel
theorem d_109_4 : decode (xB 109) 4 = .ok (.ireturn, 1) := by decide +kernel
theorem d_110_0 : decode (xB 110) 0 = .ok (.iconst 0, 1) := by decide +kernel
theorem d_110_1 : decode (xB 110) 1 = .ok (.istore_n 1, 1) := by decide +kernel
theorem d_110_2 : decode (xB 110) 2 = .ok (.iconst 0, 1) := by decide +kernel
theorem d_110_3 : decode (xB 110) 3 = .ok (.istore_n 2, 1) := by decide +kernel
theorem d_110_4 : decode (xB 110) 4 = .ok (.iload_n 2, 1) := by decide +kernel
theorem d_110_5 : decode (xB 110) 5 = .ok (.aload_n 0, 1) := by decide +kernel
theorem d_110_6 : decode (xB 110) 6 = .ok (.getfield 68, 3) := by decide +kernel
theorem d_110_9 : decode (xB 110) 9 = .ok (.if_icmp .ge 49, 3) := by decide +kernel
theorem d_110_12 : decode (xB 110) 12 = .ok (.iconst 0, 1) := by decide +kernel
theorem d_110_13 : decode (xB 110) 13 = .ok (.istore_n 3, 1) := by decide +kernel
theorem d_110_14 : decode (xB 110) 14 = .ok (.iload_n 3, 1) := by decide +kernel
theorem d_110_15 : decode (xB 110) 15 = .ok (.aload_n 0, 1) := by decide +kernel
theorem d_110_16 : decode (xB 110) 16 = .ok (.getfield 65, 3) := by decide +kernel
theorem d_110_19 : decode (xB 110) 19 = .ok (.if_icmp .ge 33, 3) := by decide +kernel
theorem d_110_22 : decode (xB 110) 22 = .ok (.aload_n 0, 1) := by decide +kernel
theorem d_110_23 : decode (xB 110) 23 = .ok (.getfield 96, 3) := by decide +kernel
theorem d_110_26 : decode (xB 110) 26 = .ok (.ifCond .eq 20, 3) := by decide +kernel
theorem d_110_29 : decode (xB 110) 29 = .ok (.aload_n 0, 1) := by decide +kernel
theorem d_110_30 : decode (xB 110) 30 = .ok (.getfield 16, 3) := by decide +kernel
theorem d_110_33 : decode (xB 110) 33 = .ok (.bipush 20, 2) := by decide +kernel
theorem d_110_35 : decode (xB 110) 35 = .ok (.iload_n 2, 1) := by decide +kernel
theorem d_110_36 : decode (xB 110) 36 = .ok (.imul, 1) := by decide +kernel
theorem d_110_37 : decode (xB 110) 37 = .ok (.iload_n 3, 1) := by decide +kernel
theorem d_110_38 : decode (xB 110) 38 = .ok (.iadd, 1) := by decide +kernel
theorem d_110_39 : decode (xB 110) 39 = .ok (.baload, 1) := by decide +kernel
theorem d_110_40 : decode (xB 110) 40 = .ok (.ifCond .eq 6, 3) := by decide +kernel
theorem d_110_43 : decode (xB 110) 43 = .ok (.iinc 1 1, 3) := by decide +kernel
theorem d_110_46 : decode (xB 110) 46 = .ok (.iinc 3 1, 3) := by decide +kernel
theorem d_110_49 : decode (xB 110) 49 = .ok (.goto (-35), 3) := by decide +kernel
theorem d_110_52 : decode (xB 110) 52 = .ok (.iinc 2 1, 3) := by decide +kernel
theorem d_110_55 : decode (xB 110) 55 = .ok (.goto (-51), 3) := by decide +kernel
theorem d_110_58 : decode (xB 110) 58 = .ok (.iload_n 1, 1) := by decide +kernel
theorem d_110_59 : decode (xB 110) 59 = .ok (.ireturn, 1) := by decide +kernel
