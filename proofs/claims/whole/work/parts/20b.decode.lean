theorem d_37_212 : decode (xB 37) 212 = .ok (.aload_n 0, 1) := by decide +kernel
theorem d_37_213 : decode (xB 37) 213 = .ok (.getfield 31, 3) := by decide +kernel
theorem d_37_216 : decode (xB 37) 216 = .ok (.iconst 1, 1) := by decide +kernel
theorem d_37_217 : decode (xB 37) 217 = .ok (.iaload, 1) := by decide +kernel
theorem d_37_218 : decode (xB 37) 218 = .ok (.invokevirtual 173, 3) := by decide +kernel
theorem d_37_221 : decode (xB 37) 221 = .ok (.ifCond .eq 47, 3) := by decide +kernel
theorem d_37_224 : decode (xB 37) 224 = .ok (.aload_n 0, 1) := by decide +kernel
theorem d_37_225 : decode (xB 37) 225 = .ok (.iconst 1, 1) := by decide +kernel
theorem d_37_226 : decode (xB 37) 226 = .ok (.iload_n 2, 1) := by decide +kernel
theorem d_37_227 : decode (xB 37) 227 = .ok (.aload_n 0, 1) := by decide +kernel
theorem d_37_228 : decode (xB 37) 228 = .ok (.getfield 31, 3) := by decide +kernel
theorem d_37_231 : decode (xB 37) 231 = .ok (.iconst 1, 1) := by decide +kernel
theorem d_37_232 : decode (xB 37) 232 = .ok (.iaload, 1) := by decide +kernel
theorem d_37_233 : decode (xB 37) 233 = .ok (.invokevirtual 173, 3) := by decide +kernel
theorem d_37_236 : decode (xB 37) 236 = .ok (.ifCond .eq 32, 3) := by decide +kernel
theorem d_37_239 : decode (xB 37) 239 = .ok (.aload_n 0, 1) := by decide +kernel
theorem d_37_240 : decode (xB 37) 240 = .ok (.iconst 2, 1) := by decide +kernel
theorem d_37_241 : decode (xB 37) 241 = .ok (.iload_n 2, 1) := by decide +kernel
theorem d_37_242 : decode (xB 37) 242 = .ok (.iload_n 3, 1) := by decide +kernel
theorem d_37_243 : decode (xB 37) 243 = .ok (.invokevirtual 173, 3) := by decide +kernel
theorem d_37_246 : decode (xB 37) 246 = .ok (.ifCond .eq 22, 3) := by decide +kernel
theorem d_37_249 : decode (xB 37) 249 = .ok (.aload_n 0, 1) := by decide +kernel
theorem d_37_250 : decode (xB 37) 250 = .ok (.iconst 3, 1) := by decide +kernel
theorem d_37_251 : decode (xB 37) 251 = .ok (.aload_n 0, 1) := by decide +kernel
theorem d_37_252 : decode (xB 37) 252 = .ok (.getfield 31, 3) := by decide +kernel
theorem d_37_255 : decode (xB 37) 255 = .ok (.iconst 0, 1) := by decide +kernel
theorem d_37_256 : decode (xB 37) 256 = .ok (.iaload, 1) := by decide +kernel
theorem d_37_257 : decode (xB 37) 257 = .ok (.iload_n 3, 1) := by decide +kernel
theorem d_37_258 : decode (xB 37) 258 = .ok (.invokevirtual 173, 3) := by decide +kernel
theorem d_37_261 : decode (xB 37) 261 = .ok (.ifCond .eq 7, 3) := by decide +kernel
theorem d_37_264 : decode (xB 37) 264 = .ok (.iconst 1, 1) := by decide +kernel
theorem d_37_265 : decode (xB 37) 265 = .ok (.goto 4, 3) := by decide +kernel
theorem d_37_268 : decode (xB 37) 268 = .ok (.iconst 0, 1) := by decide +kernel
theorem d_37_269 : decode (xB 37) 269 = .ok (.ireturn, 1) := by decide +kernel
theorem d_37_270 : decode (xB 37) 270 = .ok (.iconst 1, 1) := by decide +kernel
theorem d_37_271 : decode (xB 37) 271 = .ok (.ireturn, 1) := by decide +kernel
theorem d_38_0 : decode (xB 38) 0 = .ok (.aload_n 0, 1) := by decide +kernel
theorem d_38_1 : decode (xB 38) 1 = .ok (.invokevirtual 77, 3) := by decide +kernel
theorem d_38_4 : decode (xB 38) 4 = .ok (.astore_n 1, 1) := by decide +kernel
theorem d_38_5 : decode (xB 38) 5 = .ok (.iconst 1, 1) := by decide +kernel
theorem d_38_6 : decode (xB 38) 6 = .ok (.istore_n 2, 1) := by decide +kernel
theorem d_38_7 : decode (xB 38) 7 = .ok (.iconst 0, 1) := by decide +kernel
theorem d_38_8 : decode (xB 38) 8 = .ok (.istore_n 3, 1) := by decide +kernel
theorem d_38_9 : decode (xB 38) 9 = .ok (.iload_n 3, 1) := by decide +kernel
theorem d_38_10 : decode (xB 38) 10 = .ok (.bipush 6, 2) := by decide +kernel
theorem d_38_12 : decode (xB 38) 12 = .ok (.if_icmp .ge 137, 3) := by decide +kernel
theorem d_38_15 : decode (xB 38) 15 = .ok (.aload_n 1, 1) := by decide +kernel
theorem d_38_16 : decode (xB 38) 16 = .ok (.aload_n 0, 1) := by decide +kernel
theorem d_38_17 : decode (xB 38) 17 = .ok (.getfield 31, 3) := by decide +kernel
theorem d_38_20 : decode (xB 38) 20 = .ok (.iload_n 3, 1) := by decide +kernel
theorem d_38_21 : decode (xB 38) 21 = .ok (.iaload, 1) := by decide +kernel
theorem d_38_22 : decode (xB 38) 22 = .ok (.i2l, 1) := by decide +kernel
theorem d_38_23 : decode (xB 38) 23 = .ok (.aload_n 0, 1) := by decide +kernel
theorem d_38_24 : decode (xB 38) 24 = .ok (.getfield 31, 3) := by decide +kernel
theorem d_38_27 : decode (xB 38) 27 = .ok (.iload_n 3, 1) := by decide +kernel
theorem d_38_28 : decode (xB 38) 28 = .ok (.iconst 1, 1) := by decide +kernel
theorem d_38_29 : decode (xB 38) 29 = .ok (.iadd, 1) := by decide +kernel
theorem d_38_30 : decode (xB 38) 30 = .ok (.iaload, 1) := by decide +kernel
theorem d_38_31 : decode (xB 38) 31 = .ok (.i2l, 1) := by decide +kernel
theorem d_38_32 : decode (xB 38) 32 = .ok (.invokevirtual 177, 3) := by decide +kernel
theorem d_38_35 : decode (xB 38) 35 = .ok (.iload_n 3, 1) := by decide +kernel
theorem d_38_36 : decode (xB 38) 36 = .ok (.iconst 4, 1) := by decide +kernel
theorem d_38_37 : decode (xB 38) 37 = .ok (.if_icmp .ge 12, 3) := by decide +kernel
theorem d_38_40 : decode (xB 38) 40 = .ok (.aload_n 1, 1) := by decide +kernel
theorem d_38_41 : decode (xB 38) 41 = .ok (.getfield 188, 3) := by decide +kernel
theorem d_38_44 : decode (xB 38) 44 = .ok (.iconst 4, 1) := by decide +kernel
theorem d_38_45 : decode (xB 38) 45 = .ok (.iaload, 1) := by decide +kernel
theorem d_38_46 : decode (xB 38) 46 = .ok (.goto 4, 3) := by decide +kernel
theorem d_38_49 : decode (xB 38) 49 = .ok (.iconst 0, 1) := by decide +kernel
theorem d_38_50 : decode (xB 38) 50 = .ok (.i2l, 1) := by decide +kernel
theorem d_38_51 : decode (xB 38) 51 = .ok (.lsub, 1) := by decide +kernel
theorem d_38_52 : decode (xB 38) 52 = .ok (.lstore 4, 2) := by decide +kernel
theorem d_38_54 : decode (xB 38) 54 = .ok (.aload_n 1, 1) := by decide +kernel
theorem d_38_55 : decode (xB 38) 55 = .ok (.aload_n 0, 1) := by decide +kernel
theorem d_38_56 : decode (xB 38) 56 = .ok (.getfield 31, 3) := by decide +kernel
theorem d_38_59 : decode (xB 38) 59 = .ok (.iload_n 3, 1) := by decide +kernel
theorem d_38_60 : decode (xB 38) 60 = .ok (.iaload, 1) := by decide +kernel
theorem d_38_61 : decode (xB 38) 61 = .ok (.i2l, 1) := by decide +kernel
theorem d_38_62 : decode (xB 38) 62 = .ok (.aload_n 0, 1) := by decide +kernel
theorem d_38_63 : decode (xB 38) 63 = .ok (.getfield 31, 3) := by decide +kernel
theorem d_38_66 : decode (xB 38) 66 = .ok (.iload_n 3, 1) := by decide +kernel
theorem d_38_67 : decode (xB 38) 67 = .ok (.iconst 1, 1) := by decide +kernel
theorem d_38_68 : decode (xB 38) 68 = .ok (.iadd, 1) := by decide +kernel
theorem d_38_69 : decode (xB 38) 69 = .ok (.iaload, 1) := by decide +kernel
theorem d_38_70 : decode (xB 38) 70 = .ok (.i2l, 1) := by decide +kernel
theorem d_38_71 : decode (xB 38) 71 = .ok (.invokevirtual 181, 3) := by decide +kernel
theorem d_38_74 : decode (xB 38) 74 = .ok (.iload_n 3, 1) := by decide +kernel
theorem d_38_75 : decode (xB 38) 75 = .ok (.iconst 4, 1) := by decide +kernel
theorem d_38_76 : decode (xB 38) 76 = .ok (.if_icmp .ge 12, 3) := by decide +kernel
theorem d_38_79 : decode (xB 38) 79 = .ok (.aload_n 1, 1) := by decide +kernel
theorem d_38_80 : decode (xB 38) 80 = .ok (.getfield 188, 3) := by decide +kernel
theorem d_38_83 : decode (xB 38) 83 = .ok (.iconst 5, 1) := by decide +kernel
theorem d_38_84 : decode (xB 38) 84 = .ok (.iaload, 1) := by decide +kernel
theorem d_38_85 : decode (xB 38) 85 = .ok (.goto 4, 3) := by decide +kernel
theorem d_38_88 : decode (xB 38) 88 = .ok (.iconst 0, 1) := by decide +kernel
theorem d_38_89 : decode (xB 38) 89 = .ok (.i2l, 1) := by decide +kernel
theorem d_38_90 : decode (xB 38) 90 = .ok (.lsub, 1) := by decide +kernel
theorem d_38_91 : decode (xB 38) 91 = .ok (.lstore 6, 2) := by decide +kernel
theorem d_38_93 : decode (xB 38) 93 = .ok (.aload_n 0, 1) := by decide +kernel
theorem d_38_94 : decode (xB 38) 94 = .ok (.getfield 41, 3) := by decide +kernel
theorem d_38_97 : decode (xB 38) 97 = .ok (.iload_n 3, 1) := by decide +kernel
theorem d_38_98 : decode (xB 38) 98 = .ok (.lload 4, 2) := by decide +kernel
theorem d_38_100 : decode (xB 38) 100 = .ok (.l2i, 1) := by decide +kernel
theorem d_38_101 : decode (xB 38) 101 = .ok (.iastore, 1) := by decide +kernel
theorem d_38_102 : decode (xB 38) 102 = .ok (.aload_n 0, 1) := by decide +kernel
theorem d_38_103 : decode (xB 38) 103 = .ok (.getfield 41, 3) := by decide +kernel
theorem d_38_106 : decode (xB 38) 106 = .ok (.iload_n 3, 1) := by decide +kernel
theorem d_38_107 : decode (xB 38) 107 = .ok (.iconst 1, 1) := by decide +kernel
theorem d_38_108 : decode (xB 38) 108 = .ok (.iadd, 1) := by decide +kernel
theorem d_38_109 : decode (xB 38) 109 = .ok (.lload 6, 2) := by decide +kernel
theorem d_38_111 : decode (xB 38) 111 = .ok (.l2i, 1) := by decide +kernel
theorem d_38_112 : decode (xB 38) 112 = .ok (.iastore, 1) := by decide +kernel
theorem d_38_113 : decode (xB 38) 113 = .ok (.iload_n 2, 1) := by decide +kernel
theorem d_38_114 : decode (xB 38) 114 = .ok (.ifCond .eq 27, 3) := by decide +kernel
theorem d_38_117 : decode (xB 38) 117 = .ok (.lload 4, 2) := by decide +kernel
theorem d_38_119 : decode (xB 38) 119 = .ok (.ldc 191, 2) := by decide +kernel
theorem d_38_121 : decode (xB 38) 121 = .ok (.invokestatic 184, 3) := by decide +kernel
theorem d_38_124 : decode (xB 38) 124 = .ok (.ifCond .eq 17, 3) := by decide +kernel
theorem d_38_127 : decode (xB 38) 127 = .ok (.lload 6, 2) := by decide +kernel
theorem d_38_129 : decode (xB 38) 129 = .ok (.ldc 191, 2) := by decide +kernel
theorem d_38_131 : decode (xB 38) 131 = .ok (.invokestatic 184, 3) := by decide +kernel
theorem d_38_134 : decode (xB 38) 134 = .ok (.ifCond .eq 7, 3) := by decide +kernel
theorem d_38_137 : decode (xB 38) 137 = .ok (.iconst 1, 1) := by decide +kernel
theorem d_38_138 : decode (xB 38) 138 = .ok (.goto 4, 3) := by decide +kernel
theorem d_38_141 : decode (xB 38) 141 = .ok (.iconst 0, 1) := by decide +kernel
theorem d_38_142 : decode (xB 38) 142 = .ok (.istore_n 2, 1) := by decide +kernel
theorem d_38_143 : decode (xB 38) 143 = .ok (.iinc 3 2, 3) := by decide +kernel
theorem d_38_146 : decode (xB 38) 146 = .ok (.goto (-137), 3) := by decide +kernel
theorem d_38_149 : decode (xB 38) 149 = .ok (.iload_n 2, 1) := by decide +kernel
theorem d_38_150 : decode (xB 38) 150 = .ok (.ireturn, 1) := by decide +kernel
theorem d_39_0 : decode (xB 39) 0 = .ok (.aload_n 0, 1) := by decide +kernel
theorem d_39_1 : decode (xB 39) 1 = .ok (.getfield 9, 3) := by decide +kernel
theorem d_39_4 : decode (xB 39) 4 = .ok (.iconst 0, 1) := by decide +kernel
theorem d_39_5 : decode (xB 39) 5 = .ok (.iaload, 1) := by decide +kernel
theorem d_39_6 : decode (xB 39) 6 = .ok (.i2l, 1) := by decide +kernel
theorem d_39_7 : decode (xB 39) 7 = .ok (.lload_n 1, 1) := by decide +kernel
theorem d_39_8 : decode (xB 39) 8 = .ok (.lmul, 1) := by decide +kernel
theorem d_39_9 : decode (xB 39) 9 = .ok (.aload_n 0, 1) := by decide +kernel
theorem d_39_10 : decode (xB 39) 10 = .ok (.getfield 9, 3) := by decide +kernel
theorem d_39_13 : decode (xB 39) 13 = .ok (.iconst 2, 1) := by decide +kernel
theorem d_39_14 : decode (xB 39) 14 = .ok (.iaload, 1) := by decide +kernel
theorem d_39_15 : decode (xB 39) 15 = .ok (.i2l, 1) := by decide +kernel
theorem d_39_16 : decode (xB 39) 16 = .ok (.lload_n 3, 1) := by decide +kernel
theorem d_39_17 : decode (xB 39) 17 = .ok (.lmul, 1) := by decide +kernel
theorem d_39_18 : decode (xB 39) 18 = .ok (.ladd, 1) := by decide +kernel
theorem d_39_19 : decode (xB 39) 19 = .ok (.aload_n 0, 1) := by decide +kernel
theorem d_39_20 : decode (xB 39) 20 = .ok (.getfield 9, 3) := by decide +kernel
theorem d_39_23 : decode (xB 39) 23 = .ok (.iconst 4, 1) := by decide +kernel
theorem d_39_24 : decode (xB 39) 24 = .ok (.iaload, 1) := by decide +kernel
theorem d_39_25 : decode (xB 39) 25 = .ok (.i2l, 1) := by decide +kernel
theorem d_39_26 : decode (xB 39) 26 = .ok (.ladd, 1) := by decide +kernel
theorem d_39_27 : decode (xB 39) 27 = .ok (.lreturn, 1) := by decide +kernel
theorem d_40_0 : decode (xB 40) 0 = .ok (.aload_n 0, 1) := by decide +kernel
theorem d_40_1 : decode (xB 40) 1 = .ok (.getfield 9, 3) := by decide +kernel
theorem d_40_4 : decode (xB 40) 4 = .ok (.iconst 1, 1) := by decide +kernel
theorem d_40_5 : decode (xB 40) 5 = .ok (.iaload, 1) := by decide +kernel
theorem d_40_6 : decode (xB 40) 6 = .ok (.i2l, 1) := by decide +kernel
theorem d_40_7 : decode (xB 40) 7 = .ok (.lload_n 1, 1) := by decide +kernel
theorem d_40_8 : decode (xB 40) 8 = .ok (.lmul, 1) := by decide +kernel
theorem d_40_9 : decode (xB 40) 9 = .ok (.aload_n 0, 1) := by decide +kernel
theorem d_40_10 : decode (xB 40) 10 = .ok (.getfield 9, 3) := by decide +kernel
theorem d_40_13 : decode (xB 40) 13 = .ok (.iconst 3, 1) := by decide +kernel
theorem d_40_14 : decode (xB 40) 14 = .ok (.iaload, 1) := by decide +kernel
theorem d_40_15 : decode (xB 40) 15 = .ok (.i2l, 1) := by decide +kernel
theorem d_40_16 : decode (xB 40) 16 = .ok (.lload_n 3, 1) := by decide +kernel
theorem d_40_17 : decode (xB 40) 17 = .ok (.lmul, 1) := by decide +kernel
theorem d_40_18 : decode (xB 40) 18 = .ok (.ladd, 1) := by decide +kernel
theorem d_40_19 : decode (xB 40) 19 = .ok (.aload_n 0, 1) := by decide +kernel
theorem d_40_20 : decode (xB 40) 20 = .ok (.getfield 9, 3) := by decide +kernel
theorem d_40_23 : decode (xB 40) 23 = .ok (.iconst 5, 1) := by decide +kernel
theorem d_40_24 : decode (xB 40) 24 = .ok (.iaload, 1) := by decide +kernel
theorem d_40_25 : decode (xB 40) 25 = .ok (.i2l, 1) := by decide +kernel
theorem d_40_26 : decode (xB 40) 26 = .ok (.ladd, 1) := by decide +kernel
theorem d_40_27 : decode (xB 40) 27 = .ok (.lreturn, 1) := by decide +kernel
theorem d_41_0 : decode (xB 41) 0 = .ok (.lload_n 0, 1) := by decide +kernel
theorem d_41_1 : decode (xB 41) 1 = .ok (.iload_n 2, 1) := by decide +kernel
theorem d_41_2 : decode (xB 41) 2 = .ok (.ineg, 1) := by decide +kernel
theorem d_41_3 : decode (xB 41) 3 = .ok (.i2l, 1) := by decide +kernel
theorem d_41_4 : decode (xB 41) 4 = .ok (.lcmp, 1) := by decide +kernel
theorem d_41_5 : decode (xB 41) 5 = .ok (.ifCond .lt 14, 3) := by decide +kernel
theorem d_41_8 : decode (xB 41) 8 = .ok (.lload_n 0, 1) := by decide +kernel
theorem d_41_9 : decode (xB 41) 9 = .ok (.iload_n 2, 1) := by decide +kernel
theorem d_41_10 : decode (xB 41) 10 = .ok (.i2l, 1) := by decide +kernel
theorem d_41_11 : decode (xB 41) 11 = .ok (.lcmp, 1) := by decide +kernel
theorem d_41_12 : decode (xB 41) 12 = .ok (.ifCond .gt 7, 3) := by decide +kernel
theorem d_41_15 : decode (xB 41) 15 = .ok (.iconst 1, 1) := by decide +kernel
theorem d_41_16 : decode (xB 41) 16 = .ok (.goto 4, 3) := by decide +kernel
theorem d_41_19 : decode (xB 41) 19 = .ok (.iconst 0, 1) := by decide +kernel
theorem d_41_20 : decode (xB 41) 20 = .ok (.ireturn, 1) := by decide +kernel
theorem d_42_0 : decode (xB 42) 0 = .ok (.aload_n 0, 1) := by decide +kernel
theorem d_42_1 : decode (xB 42) 1 = .ok (.invokevirtual 77, 3) := by decide +kernel
theorem d_42_4 : decode (xB 42) 4 = .ok (.iload_n 2, 1) := by decide +kernel
theorem d_42_5 : decode (xB 42) 5 = .ok (.i2l, 1) := by decide +kernel
theorem d_42_6 : decode (xB 42) 6 = .ok (.iload_n 3, 1) := by decide +kernel
theorem d_42_7 : decode (xB 42) 7 = .ok (.i2l, 1) := by decide +kernel
theorem d_42_8 : decode (xB 42) 8 = .ok (.invokevirtual 177, 3) := by decide +kernel
theorem d_42_11 : decode (xB 42) 11 = .ok (.lstore 4, 2) := by decide +kernel
theorem d_42_13 : decode (xB 42) 13 = .ok (.aload_n 0, 1) := by decide +kernel
theorem d_42_14 : decode (xB 42) 14 = .ok (.invokevirtual 77, 3) := by decide +kernel
theorem d_42_17 : decode (xB 42) 17 = .ok (.iload_n 2, 1) := by decide +kernel
theorem d_42_18 : decode (xB 42) 18 = .ok (.i2l, 1) := by decide +kernel
theorem d_42_19 : decode (xB 42) 19 = .ok (.iload_n 3, 1) := by decide +kernel
theorem d_42_20 : decode (xB 42) 20 = .ok (.i2l, 1) := by decide +kernel
theorem d_42_21 : decode (xB 42) 21 = .ok (.invokevirtual 181, 3) := by decide +kernel
theorem d_42_24 : decode (xB 42) 24 = .ok (.lstore 6, 2) := by decide +kernel
theorem d_42_26 : decode (xB 42) 26 = .ok (.aload_n 0, 1) := by decide +kernel
theorem d_42_27 : decode (xB 42) 27 = .ok (.getfield 35, 3) := by decide +kernel
theorem d_42_30 : decode (xB 42) 30 = .ok (.iload_n 1, 1) := by decide +kernel
theorem d_42_31 : decode (xB 42) 31 = .ok (.lload 4, 2) := by decide +kernel
theorem d_42_33 : decode (xB 42) 33 = .ok (.l2i, 1) := by decide +kernel
theorem d_42_34 : decode (xB 42) 34 = .ok (.iastore, 1) := by decide +kernel
theorem d_42_35 : decode (xB 42) 35 = .ok (.aload_n 0, 1) := by decide +kernel
theorem d_42_36 : decode (xB 42) 36 = .ok (.getfield 38, 3) := by decide +kernel
theorem d_42_39 : decode (xB 42) 39 = .ok (.iload_n 1, 1) := by decide +kernel
theorem d_42_40 : decode (xB 42) 40 = .ok (.lload 6, 2) := by decide +kernel
theorem d_42_42 : decode (xB 42) 42 = .ok (.l2i, 1) := by decide +kernel
theorem d_42_43 : decode (xB 42) 43 = .ok (.iastore, 1) := by decide +kernel
theorem d_42_44 : decode (xB 42) 44 = .ok (.lload 4, 2) := by decide +kernel
theorem d_42_46 : decode (xB 42) 46 = .ok (.sipush 32767, 3) := by decide +kernel
theorem d_42_49 : decode (xB 42) 49 = .ok (.invokestatic 184, 3) := by decide +kernel
theorem d_42_52 : decode (xB 42) 52 = .ok (.ifCond .eq 18, 3) := by decide +kernel
theorem d_42_55 : decode (xB 42) 55 = .ok (.lload 6, 2) := by decide +kernel
theorem d_42_57 : decode (xB 42) 57 = .ok (.sipush 32767, 3) := by decide +kernel
theorem d_42_60 : decode (xB 42) 60 = .ok (.invokestatic 184, 3) := by decide +kernel
theorem d_42_63 : decode (xB 42) 63 = .ok (.ifCond .eq 7, 3) := by decide +kernel
theorem d_42_66 : decode (xB 42) 66 = .ok (.iconst 1, 1) := by decide +kernel
theorem d_42_67 : decode (xB 42) 67 = .ok (.goto 4, 3) := by decide +kernel
theorem d_42_70 : decode (xB 42) 70 = .ok (.iconst 0, 1) := by decide +kernel
theorem d_42_71 : decode (xB 42) 71 = .ok (.ireturn, 1) := by decide +kernel
theorem d_43_0 : decode (xB 43) 0 = .ok (.iload_n 0, 1) := by decide +kernel
theorem d_43_1 : decode (xB 43) 1 = .ok (.lookupswitch 47 #[(99, 45), (104, 43), (108, 43), (25970, 45)], 43) := by decide +kernel
theorem d_43_44 : decode (xB 43) 44 = .ok (.iconst 1, 1) := by decide +kernel
theorem d_43_45 : decode (xB 43) 45 = .ok (.ireturn, 1) := by decide +kernel
theorem d_43_46 : decode (xB 43) 46 = .ok (.iconst 4, 1) := by decide +kernel
theorem d_43_47 : decode (xB 43) 47 = .ok (.ireturn, 1) := by decide +kernel
theorem d_43_48 : decode (xB 43) 48 = .ok (.iconst 0, 1) := by decide +kernel
theorem d_43_49 : decode (xB 43) 49 = .ok (.ireturn, 1) := by decide +kernel
theorem d_44_0 : decode (xB 44) 0 = .ok (.iload_n 1, 1) := by decide +kernel
theorem d_44_1 : decode (xB 44) 1 = .ok (.lookupswitch 144 #[(81, 94), (103, 128), (113, 43), (28003, 107)], 43) := by decide +kernel
theorem d_44_44 : decode (xB 44) 44 = .ok (.aload_n 0, 1) := by decide +kernel
theorem d_44_45 : decode (xB 44) 45 = .ok (.getfield 27, 3) := by decide +kernel
theorem d_44_48 : decode (xB 44) 48 = .ok (.aload_n 0, 1) := by decide +kernel
theorem d_44_49 : decode (xB 44) 49 = .ok (.getfield 49, 3) := by decide +kernel
theorem d_44_52 : decode (xB 44) 52 = .ok (.iconst 1, 1) := by decide +kernel
theorem d_44_53 : decode (xB 44) 53 = .ok (.iadd, 1) := by decide +kernel
theorem d_44_54 : decode (xB 44) 54 = .ok (.aaload, 1) := by decide +kernel
theorem d_44_55 : decode (xB 44) 55 = .ok (.aload_n 0, 1) := by decide +kernel
theorem d_44_56 : decode (xB 44) 56 = .ok (.getfield 27, 3) := by decide +kernel
theorem d_44_59 : decode (xB 44) 59 = .ok (.aload_n 0, 1) := by decide +kernel
theorem d_44_60 : decode (xB 44) 60 = .ok (.getfield 49, 3) := by decide +kernel
theorem d_44_63 : decode (xB 44) 63 = .ok (.aaload, 1) := by decide +kernel
theorem d_44_64 : decode (xB 44) 64 = .ok (.invokevirtual 192, 3) := by decide +kernel
theorem d_44_67 : decode (xB 44) 67 = .ok (.aload_n 0, 1) := by decide +kernel
theorem d_44_68 : decode (xB 44) 68 = .ok (.dup, 1) := by decide +kernel
theorem d_44_69 : decode (xB 44) 69 = .ok (.getfield 49, 3) := by decide +kernel
theorem d_44_72 : decode (xB 44) 72 = .ok (.iconst 1, 1) := by decide +kernel
theorem d_44_73 : decode (xB 44) 73 = .ok (.iadd, 1) := by decide +kernel
theorem d_44_74 : decode (xB 44) 74 = .ok (.putfield 49, 3) := by decide +kernel
theorem d_44_77 : decode (xB 44) 77 = .ok (.aload_n 0, 1) := by decide +kernel
theorem d_44_78 : decode (xB 44) 78 = .ok (.aload_n 0, 1) := by decide +kernel
theorem d_44_79 : decode (xB 44) 79 = .ok (.getfield 74, 3) := by decide +kernel
theorem d_44_82 : decode (xB 44) 82 = .ok (.aload_n 0, 1) := by decide +kernel
theorem d_44_83 : decode (xB 44) 83 = .ok (.getfield 49, 3) := by decide +kernel
theorem d_44_86 : decode (xB 44) 86 = .ok (.invokestatic 118, 3) := by decide +kernel
theorem d_44_89 : decode (xB 44) 89 = .ok (.putfield 74, 3) := by decide +kernel
theorem d_44_92 : decode (xB 44) 92 = .ok (.goto 53, 3) := by decide +kernel
theorem d_44_95 : decode (xB 44) 95 = .ok (.aload_n 0, 1) := by decide +kernel
theorem d_44_96 : decode (xB 44) 96 = .ok (.dup, 1) := by decide +kernel
theorem d_44_97 : decode (xB 44) 97 = .ok (.getfield 49, 3) := by decide +kernel
theorem d_44_100 : decode (xB 44) 100 = .ok (.iconst 1, 1) := by decide +kernel
theorem d_44_101 : decode (xB 44) 101 = .ok (.isub, 1) := by decide +kernel
theorem d_44_102 : decode (xB 44) 102 = .ok (.putfield 49, 3) := by decide +kernel
theorem d_44_105 : decode (xB 44) 105 = .ok (.goto 40, 3) := by decide +kernel
theorem d_44_108 : decode (xB 44) 108 = .ok (.aload_n 0, 1) := by decide +kernel
theorem d_44_109 : decode (xB 44) 109 = .ok (.getfield 41, 3) := by decide +kernel
theorem d_44_112 : decode (xB 44) 112 = .ok (.iconst 0, 1) := by decide +kernel
theorem d_44_113 : decode (xB 44) 113 = .ok (.aload_n 0, 1) := by decide +kernel
theorem d_44_114 : decode (xB 44) 114 = .ok (.invokevirtual 77, 3) := by decide +kernel
theorem d_44_117 : decode (xB 44) 117 = .ok (.getfield 188, 3) := by decide +kernel
theorem d_44_120 : decode (xB 44) 120 = .ok (.iconst 0, 1) := by decide +kernel
theorem d_44_121 : decode (xB 44) 121 = .ok (.bipush 6, 2) := by decide +kernel
theorem d_44_123 : decode (xB 44) 123 = .ok (.invokestatic 196, 3) := by decide +kernel
theorem d_44_126 : decode (xB 44) 126 = .ok (.goto 19, 3) := by decide +kernel
theorem d_44_129 : decode (xB 44) 129 = .ok (.aload_n 0, 1) := by decide +kernel
theorem d_44_130 : decode (xB 44) 130 = .ok (.invokevirtual 77, 3) := by decide +kernel
theorem d_44_133 : decode (xB 44) 133 = .ok (.aload_n 0, 1) := by decide +kernel
theorem d_44_134 : decode (xB 44) 134 = .ok (.getfield 31, 3) := by decide +kernel
theorem d_44_137 : decode (xB 44) 137 = .ok (.iconst 0, 1) := by decide +kernel
theorem d_44_138 : decode (xB 44) 138 = .ok (.iaload, 1) := by decide +kernel
theorem d_44_139 : decode (xB 44) 139 = .ok (.putfield 202, 3) := by decide +kernel
theorem d_44_142 : decode (xB 44) 142 = .ok (.goto 3, 3) := by decide +kernel
theorem d_44_145 : decode (xB 44) 145 = .ok (.return_, 1) := by decide +kernel
theorem d_45_0 : decode (xB 45) 0 = .ok (.aload_n 1, 1) := by decide +kernel
theorem d_45_1 : decode (xB 45) 1 = .ok (.getfield 9, 3) := by decide +kernel
theorem d_45_4 : decode (xB 45) 4 = .ok (.iconst 0, 1) := by decide +kernel
theorem d_45_5 : decode (xB 45) 5 = .ok (.aload_n 0, 1) := by decide +kernel
theorem d_45_6 : decode (xB 45) 6 = .ok (.getfield 9, 3) := by decide +kernel
theorem d_45_9 : decode (xB 45) 9 = .ok (.iconst 0, 1) := by decide +kernel
theorem d_45_10 : decode (xB 45) 10 = .ok (.bipush 6, 2) := by decide +kernel
theorem d_45_12 : decode (xB 45) 12 = .ok (.invokestatic 28, 3) := by decide +kernel
theorem d_45_15 : decode (xB 45) 15 = .ok (.aload_n 1, 1) := by decide +kernel
theorem d_45_16 : decode (xB 45) 16 = .ok (.getfield 15, 3) := by decide +kernel
theorem d_45_19 : decode (xB 45) 19 = .ok (.iconst 0, 1) := by decide +kernel
theorem d_45_20 : decode (xB 45) 20 = .ok (.aload_n 0, 1) := by decide +kernel
theorem d_45_21 : decode (xB 45) 21 = .ok (.getfield 15, 3) := by decide +kernel
theorem d_45_24 : decode (xB 45) 24 = .ok (.iconst 0, 1) := by decide +kernel
theorem d_45_25 : decode (xB 45) 25 = .ok (.bipush 20, 2) := by decide +kernel
theorem d_45_27 : decode (xB 45) 27 = .ok (.invokestatic 28, 3) := by decide +kernel
theorem d_45_30 : decode (xB 45) 30 = .ok (.aload_n 0, 1) := by decide +kernel
theorem d_45_31 : decode (xB 45) 31 = .ok (.aload_n 1, 1) := by decide +kernel
theorem d_45_32 : decode (xB 45) 32 = .ok (.getfield 24, 3) := by decide +kernel
theorem d_45_35 : decode (xB 45) 35 = .ok (.putfield 24, 3) := by decide +kernel
theorem d_45_38 : decode (xB 45) 38 = .ok (.return_, 1) := by decide +kernel
theorem d_46_0 : decode (xB 46) 0 = .ok (.iload_n 0, 1) := by decide +kernel
theorem d_46_1 : decode (xB 46) 1 = .ok (.iload_n 1, 1) := by decide +kernel
theorem d_46_2 : decode (xB 46) 2 = .ok (.if_icmp .lt 7, 3) := by decide +kernel
theorem d_46_5 : decode (xB 46) 5 = .ok (.iload_n 0, 1) := by decide +kernel
theorem d_46_6 : decode (xB 46) 6 = .ok (.goto 4, 3) := by decide +kernel
theorem d_46_9 : decode (xB 46) 9 = .ok (.iload_n 1, 1) := by decide +kernel
theorem d_46_10 : decode (xB 46) 10 = .ok (.ireturn, 1) := by decide +kernel
theorem d_47_0 : decode (xB 47) 0 = .ok (.iload_n 1, 1) := by decide +kernel
theorem d_47_1 : decode (xB 47) 1 = .ok (.lookupswitch 240 #[(99, 219), (104, 95), (108, 73), (109, 51), (25970, 119)], 51) := by decide +kernel
theorem d_47_52 : decode (xB 47) 52 = .ok (.aload_n 0, 1) := by decide +kernel
theorem d_47_53 : decode (xB 47) 53 = .ok (.getfield 21, 3) := by decide +kernel
theorem d_47_56 : decode (xB 47) 56 = .ok (.aload_n 0, 1) := by decide +kernel
theorem d_47_57 : decode (xB 47) 57 = .ok (.getfield 35, 3) := by decide +kernel
theorem d_47_60 : decode (xB 47) 60 = .ok (.iconst 0, 1) := by decide +kernel
theorem d_47_61 : decode (xB 47) 61 = .ok (.iaload, 1) := by decide +kernel
theorem d_47_62 : decode (xB 47) 62 = .ok (.aload_n 0, 1) := by decide +kernel
theorem d_47_63 : decode (xB 47) 63 = .ok (.getfield 38, 3) := by decide +kernel
theorem d_47_66 : decode (xB 47) 66 = .ok (.iconst 0, 1) := by decide +kernel
theorem d_47_67 : decode (xB 47) 67 = .ok (.iaload, 1) := by decide +kernel
theorem d_47_68 : decode (xB 47) 68 = .ok (.invokevirtual 205, 3) := by decide +kernel
theorem d_47_71 : decode (xB 47) 71 = .ok (.goto 170, 3) := by decide +kernel
theorem d_47_74 : decode (xB 47) 74 = .ok (.aload_n 0, 1) := by decide +kernel
theorem d_47_75 : decode (xB 47) 75 = .ok (.getfield 21, 3) := by decide +kernel
theorem d_47_78 : decode (xB 47) 78 = .ok (.aload_n 0, 1) := by decide +kernel
theorem d_47_79 : decode (xB 47) 79 = .ok (.getfield 35, 3) := by decide +kernel
theorem d_47_82 : decode (xB 47) 82 = .ok (.iconst 0, 1) := by decide +kernel
theorem d_47_83 : decode (xB 47) 83 = .ok (.iaload, 1) := by decide +kernel
theorem d_47_84 : decode (xB 47) 84 = .ok (.aload_n 0, 1) := by decide +kernel
theorem d_47_85 : decode (xB 47) 85 = .ok (.getfield 38, 3) := by decide +kernel
theorem d_47_88 : decode (xB 47) 88 = .ok (.iconst 0, 1) := by decide +kernel
theorem d_47_89 : decode (xB 47) 89 = .ok (.iaload, 1) := by decide +kernel
theorem d_47_90 : decode (xB 47) 90 = .ok (.invokevirtual 208, 3) := by decide +kernel
theorem d_47_93 : decode (xB 47) 93 = .ok (.goto 148, 3) := by decide +kernel
theorem d_47_96 : decode (xB 47) 96 = .ok (.aload_n 0, 1) := by decide +kernel
theorem d_47_97 : decode (xB 47) 97 = .ok (.getfield 21, 3) := by decide +kernel
theorem d_47_100 : decode (xB 47) 100 = .ok (.aload_n 0, 1) := by decide +kernel
theorem d_47_101 : decode (xB 47) 101 = .ok (.getfield 21, 3) := by decide +kernel
theorem d_47_104 : decode (xB 47) 104 = .ok (.getfield 211, 3) := by decide +kernel
theorem d_47_107 : decode (xB 47) 107 = .ok (.aload_n 0, 1) := by decide +kernel
theorem d_47_108 : decode (xB 47) 108 = .ok (.getfield 21, 3) := by decide +kernel
theorem d_47_111 : decode (xB 47) 111 = .ok (.getfield 214, 3) := by decide +kernel
theorem d_47_114 : decode (xB 47) 114 = .ok (.invokevirtual 208, 3) := by decide +kernel
theorem d_47_117 : decode (xB 47) 117 = .ok (.goto 124, 3) := by decide +kernel
theorem d_47_120 : decode (xB 47) 120 = .ok (.aload_n 0, 1) := by decide +kernel
theorem d_47_121 : decode (xB 47) 121 = .ok (.getfield 21, 3) := by decide +kernel
theorem d_47_124 : decode (xB 47) 124 = .ok (.aload_n 0, 1) := by decide +kernel
theorem d_47_125 : decode (xB 47) 125 = .ok (.getfield 35, 3) := by decide +kernel
theorem d_47_128 : decode (xB 47) 128 = .ok (.iconst 0, 1) := by decide +kernel
theorem d_47_129 : decode (xB 47) 129 = .ok (.iaload, 1) := by decide +kernel
theorem d_47_130 : decode (xB 47) 130 = .ok (.aload_n 0, 1) := by decide +kernel
theorem d_47_131 : decode (xB 47) 131 = .ok (.getfield 38, 3) := by decide +kernel
theorem d_47_134 : decode (xB 47) 134 = .ok (.iconst 0, 1) := by decide +kernel
theorem d_47_135 : decode (xB 47) 135 = .ok (.iaload, 1) := by decide +kernel
theorem d_47_136 : decode (xB 47) 136 = .ok (.invokevirtual 205, 3) := by decide +kernel
theorem d_47_139 : decode (xB 47) 139 = .ok (.aload_n 0, 1) := by decide +kernel
theorem d_47_140 : decode (xB 47) 140 = .ok (.getfield 21, 3) := by decide +kernel
theorem d_47_143 : decode (xB 47) 143 = .ok (.aload_n 0, 1) := by decide +kernel
theorem d_47_144 : decode (xB 47) 144 = .ok (.getfield 35, 3) := by decide +kernel
theorem d_47_147 : decode (xB 47) 147 = .ok (.iconst 1, 1) := by decide +kernel
theorem d_47_148 : decode (xB 47) 148 = .ok (.iaload, 1) := by decide +kernel
theorem d_47_149 : decode (xB 47) 149 = .ok (.aload_n 0, 1) := by decide +kernel
theorem d_47_150 : decode (xB 47) 150 = .ok (.getfield 38, 3) := by decide +kernel
theorem d_47_153 : decode (xB 47) 153 = .ok (.iconst 1, 1) := by decide +kernel
theorem d_47_154 : decode (xB 47) 154 = .ok (.iaload, 1) := by decide +kernel
theorem d_47_155 : decode (xB 47) 155 = .ok (.invokevirtual 208, 3) := by decide +kernel
theorem d_47_158 : decode (xB 47) 158 = .ok (.aload_n 0, 1) := by decide +kernel
theorem d_47_159 : decode (xB 47) 159 = .ok (.getfield 21, 3) := by decide +kernel
theorem d_47_162 : decode (xB 47) 162 = .ok (.aload_n 0, 1) := by decide +kernel
theorem d_47_163 : decode (xB 47) 163 = .ok (.getfield 35, 3) := by decide +kernel
theorem d_47_166 : decode (xB 47) 166 = .ok (.iconst 2, 1) := by decide +kernel
theorem d_47_167 : decode (xB 47) 167 = .ok (.iaload, 1) := by decide +kernel
theorem d_47_168 : decode (xB 47) 168 = .ok (.aload_n 0, 1) := by decide +kernel
theorem d_47_169 : decode (xB 47) 169 = .ok (.getfield 38, 3) := by decide +kernel
theorem d_47_172 : decode (xB 47) 172 = .ok (.iconst 2, 1) := by decide +kernel
theorem d_47_173 : decode (xB 47) 173 = .ok (.iaload, 1) := by decide +kernel
theorem d_47_174 : decode (xB 47) 174 = .ok (.invokevirtual 208, 3) := by decide +kernel
theorem d_47_177 : decode (xB 47) 177 = .ok (.aload_n 0, 1) := by decide +kernel
theorem d_47_178 : decode (xB 47) 178 = .ok (.getfield 21, 3) := by decide +kernel
theorem d_47_181 : decode (xB 47) 181 = .ok (.aload_n 0, 1) := by decide +kernel
theorem d_47_182 : decode (xB 47) 182 = .ok (.getfield 35, 3) := by decide +kernel
theorem d_47_185 : decode (xB 47) 185 = .ok (.iconst 3, 1) := by decide +kernel
theorem d_47_186 : decode (xB 47) 186 = .ok (.iaload, 1) := by decide +kernel
theorem d_47_187 : decode (xB 47) 187 = .ok (.aload_n 0, 1) := by decide +kernel
theorem d_47_188 : decode (xB 47) 188 = .ok (.getfield 38, 3) := by decide +kernel
theorem d_47_191 : decode (xB 47) 191 = .ok (.iconst 3, 1) := by decide +kernel
theorem d_47_192 : decode (xB 47) 192 = .ok (.iaload, 1) := by decide +kernel
theorem d_47_193 : decode (xB 47) 193 = .ok (.invokevirtual 208, 3) := by decide +kernel
theorem d_47_196 : decode (xB 47) 196 = .ok (.aload_n 0, 1) := by decide +kernel
theorem d_47_197 : decode (xB 47) 197 = .ok (.getfield 21, 3) := by decide +kernel
theorem d_47_200 : decode (xB 47) 200 = .ok (.aload_n 0, 1) := by decide +kernel
theorem d_47_201 : decode (xB 47) 201 = .ok (.getfield 21, 3) := by decide +kernel
theorem d_47_204 : decode (xB 47) 204 = .ok (.getfield 211, 3) := by decide +kernel
theorem d_47_207 : decode (xB 47) 207 = .ok (.aload_n 0, 1) := by decide +kernel
theorem d_47_208 : decode (xB 47) 208 = .ok (.getfield 21, 3) := by decide +kernel
theorem d_47_211 : decode (xB 47) 211 = .ok (.getfield 214, 3) := by decide +kernel
theorem d_47_214 : decode (xB 47) 214 = .ok (.invokevirtual 208, 3) := by decide +kernel
theorem d_47_217 : decode (xB 47) 217 = .ok (.goto 24, 3) := by decide +kernel
theorem d_47_220 : decode (xB 47) 220 = .ok (.aload_n 0, 1) := by decide +kernel
theorem d_47_221 : decode (xB 47) 221 = .ok (.aload_n 0, 1) := by decide +kernel
theorem d_47_222 : decode (xB 47) 222 = .ok (.getfield 21, 3) := by decide +kernel
theorem d_47_225 : decode (xB 47) 225 = .ok (.getfield 217, 3) := by decide +kernel
theorem d_47_228 : decode (xB 47) 228 = .ok (.aload_n 0, 1) := by decide +kernel
theorem d_47_229 : decode (xB 47) 229 = .ok (.getfield 21, 3) := by decide +kernel
theorem d_47_232 : decode (xB 47) 232 = .ok (.getfield 220, 3) := by decide +kernel
theorem d_47_235 : decode (xB 47) 235 = .ok (.invokevirtual 223, 3) := by decide +kernel
theorem d_47_238 : decode (xB 47) 238 = .ok (.goto 3, 3) := by decide +kernel
theorem d_47_241 : decode (xB 47) 241 = .ok (.return_, 1) := by decide +kernel
theorem d_48_0 : decode (xB 48) 0 = .ok (.aload_n 0, 1) := by decide +kernel
theorem d_48_1 : decode (xB 48) 1 = .ok (.invokevirtual 50, 3) := by decide +kernel
theorem d_48_4 : decode (xB 48) 4 = .ok (.aload_n 0, 1) := by decide +kernel
theorem d_48_5 : decode (xB 48) 5 = .ok (.iconst 1, 1) := by decide +kernel
theorem d_48_6 : decode (xB 48) 6 = .ok (.putfield 34, 3) := by decide +kernel
theorem d_48_9 : decode (xB 48) 9 = .ok (.aload_n 0, 1) := by decide +kernel
theorem d_48_10 : decode (xB 48) 10 = .ok (.iload_n 1, 1) := by decide +kernel
theorem d_48_11 : decode (xB 48) 11 = .ok (.putfield 38, 3) := by decide +kernel
theorem d_48_14 : decode (xB 48) 14 = .ok (.aload_n 0, 1) := by decide +kernel
theorem d_48_15 : decode (xB 48) 15 = .ok (.iload_n 2, 1) := by decide +kernel
theorem d_48_16 : decode (xB 48) 16 = .ok (.putfield 44, 3) := by decide +kernel
theorem d_48_19 : decode (xB 48) 19 = .ok (.aload_n 0, 1) := by decide +kernel
theorem d_48_20 : decode (xB 48) 20 = .ok (.iload_n 1, 1) := by decide +kernel
theorem d_48_21 : decode (xB 48) 21 = .ok (.putfield 41, 3) := by decide +kernel
theorem d_48_24 : decode (xB 48) 24 = .ok (.aload_n 0, 1) := by decide +kernel
theorem d_48_25 : decode (xB 48) 25 = .ok (.iload_n 2, 1) := by decide +kernel
theorem d_48_26 : decode (xB 48) 26 = .ok (.putfield 47, 3) := by decide +kernel
theorem d_48_29 : decode (xB 48) 29 = .ok (.return_, 1) := by decide +kernel
theorem d_49_0 : decode (xB 49) 0 = .ok (.aload_n 0, 1) := by decide +kernel
theorem d_49_1 : decode (xB 49) 1 = .ok (.getfield 41, 3) := by decide +kernel
theorem d_49_4 : decode (xB 49) 4 = .ok (.aload_n 0, 1) := by decide +kernel
theorem d_49_5 : decode (xB 49) 5 = .ok (.getfield 38, 3) := by decide +kernel
theorem d_49_8 : decode (xB 49) 8 = .ok (.if_icmp .ne 14, 3) := by decide +kernel
theorem d_49_11 : decode (xB 49) 11 = .ok (.aload_n 0, 1) := by decide +kernel
theorem d_49_12 : decode (xB 49) 12 = .ok (.getfield 47, 3) := by decide +kernel
theorem d_49_15 : decode (xB 49) 15 = .ok (.aload_n 0, 1) := by decide +kernel
theorem d_49_16 : decode (xB 49) 16 = .ok (.getfield 44, 3) := by decide +kernel
theorem d_49_19 : decode (xB 49) 19 = .ok (.if_icmp .eq 15, 3) := by decide +kernel
theorem d_49_22 : decode (xB 49) 22 = .ok (.aload_n 0, 1) := by decide +kernel
theorem d_49_23 : decode (xB 49) 23 = .ok (.aload_n 0, 1) := by decide +kernel
theorem d_49_24 : decode (xB 49) 24 = .ok (.getfield 38, 3) := by decide +kernel
theorem d_49_27 : decode (xB 49) 27 = .ok (.aload_n 0, 1) := by decide +kernel
theorem d_49_28 : decode (xB 49) 28 = .ok (.getfield 44, 3) := by decide +kernel
theorem d_49_31 : decode (xB 49) 31 = .ok (.invokevirtual 53, 3) := by decide +kernel
theorem d_49_34 : decode (xB 49) 34 = .ok (.return_, 1) := by decide +kernel
theorem d_50_0 : decode (xB 50) 0 = .ok (.aload_n 0, 1) := by decide +kernel
theorem d_50_1 : decode (xB 50) 1 = .ok (.getfield 27, 3) := by decide +kernel
theorem d_50_4 : decode (xB 50) 4 = .ok (.bipush 120, 2) := by decide +kernel
theorem d_50_6 : decode (xB 50) 6 = .ok (.if_icmp .ge 59, 3) := by decide +kernel
theorem d_50_9 : decode (xB 50) 9 = .ok (.aload_n 0, 1) := by decide +kernel
theorem d_50_10 : decode (xB 50) 10 = .ok (.getfield 9, 3) := by decide +kernel
theorem d_50_13 : decode (xB 50) 13 = .ok (.aload_n 0, 1) := by decide +kernel
theorem d_50_14 : decode (xB 50) 14 = .ok (.getfield 27, 3) := by decide +kernel
theorem d_50_17 : decode (xB 50) 17 = .ok (.aload_n 0, 1) := by decide +kernel
theorem d_50_18 : decode (xB 50) 18 = .ok (.getfield 41, 3) := by decide +kernel
theorem d_50_21 : decode (xB 50) 21 = .ok (.iastore, 1) := by decide +kernel
theorem d_50_22 : decode (xB 50) 22 = .ok (.aload_n 0, 1) := by decide +kernel
theorem d_50_23 : decode (xB 50) 23 = .ok (.getfield 15, 3) := by decide +kernel
theorem d_50_26 : decode (xB 50) 26 = .ok (.aload_n 0, 1) := by decide +kernel
theorem d_50_27 : decode (xB 50) 27 = .ok (.getfield 27, 3) := by decide +kernel
theorem d_50_30 : decode (xB 50) 30 = .ok (.aload_n 0, 1) := by decide +kernel
theorem d_50_31 : decode (xB 50) 31 = .ok (.getfield 47, 3) := by decide +kernel
theorem d_50_34 : decode (xB 50) 34 = .ok (.iastore, 1) := by decide +kernel
theorem d_50_35 : decode (xB 50) 35 = .ok (.aload_n 0, 1) := by decide +kernel
theorem d_50_36 : decode (xB 50) 36 = .ok (.getfield 18, 3) := by decide +kernel
theorem d_50_39 : decode (xB 50) 39 = .ok (.aload_n 0, 1) := by decide +kernel
theorem d_50_40 : decode (xB 50) 40 = .ok (.getfield 27, 3) := by decide +kernel
theorem d_50_43 : decode (xB 50) 43 = .ok (.iload_n 1, 1) := by decide +kernel
theorem d_50_44 : decode (xB 50) 44 = .ok (.iastore, 1) := by decide +kernel
theorem d_50_45 : decode (xB 50) 45 = .ok (.aload_n 0, 1) := by decide +kernel
theorem d_50_46 : decode (xB 50) 46 = .ok (.getfield 21, 3) := by decide +kernel
theorem d_50_49 : decode (xB 50) 49 = .ok (.aload_n 0, 1) := by decide +kernel
theorem d_50_50 : decode (xB 50) 50 = .ok (.getfield 27, 3) := by decide +kernel
theorem d_50_53 : decode (xB 50) 53 = .ok (.iload_n 2, 1) := by decide +kernel
theorem d_50_54 : decode (xB 50) 54 = .ok (.iastore, 1) := by decide +kernel
theorem d_50_55 : decode (xB 50) 55 = .ok (.aload_n 0, 1) := by decide +kernel
theorem d_50_56 : decode (xB 50) 56 = .ok (.dup, 1) := by decide +kernel
theorem d_50_57 : decode (xB 50) 57 = .ok (.getfield 27, 3) := by decide +kernel
theorem d_50_60 : decode (xB 50) 60 = .ok (.iconst 1, 1) := by decide +kernel
theorem d_50_61 : decode (xB 50) 61 = .ok (.iadd, 1) := by decide +kernel
theorem d_50_62 : decode (xB 50) 62 = .ok (.putfield 27, 3) := by decide +kernel
theorem d_50_65 : decode (xB 50) 65 = .ok (.return_, 1) := by decide +kernel
theorem d_51_0 : decode (xB 51) 0 = .ok (.aload_n 0, 1) := by decide +kernel
theorem d_51_1 : decode (xB 51) 1 = .ok (.iload_n 1, 1) := by decide +kernel
theorem d_51_2 : decode (xB 51) 2 = .ok (.iload_n 2, 1) := by decide +kernel
theorem d_51_3 : decode (xB 51) 3 = .ok (.invokevirtual 53, 3) := by decide +kernel
theorem d_51_6 : decode (xB 51) 6 = .ok (.aload_n 0, 1) := by decide +kernel
theorem d_51_7 : decode (xB 51) 7 = .ok (.dup, 1) := by decide +kernel
theorem d_51_8 : decode (xB 51) 8 = .ok (.getfield 31, 3) := by decide +kernel
theorem d_51_11 : decode (xB 51) 11 = .ok (.iconst 1, 1) := by decide +kernel
theorem d_51_12 : decode (xB 51) 12 = .ok (.iadd, 1) := by decide +kernel
theorem d_51_13 : decode (xB 51) 13 = .ok (.putfield 31, 3) := by decide +kernel
theorem d_51_16 : decode (xB 51) 16 = .ok (.aload_n 0, 1) := by decide +kernel
theorem d_51_17 : decode (xB 51) 17 = .ok (.iload_n 1, 1) := by decide +kernel
theorem d_51_18 : decode (xB 51) 18 = .ok (.putfield 41, 3) := by decide +kernel
theorem d_51_21 : decode (xB 51) 21 = .ok (.aload_n 0, 1) := by decide +kernel
theorem d_51_22 : decode (xB 51) 22 = .ok (.iload_n 2, 1) := by decide +kernel
theorem d_51_23 : decode (xB 51) 23 = .ok (.putfield 47, 3) := by decide +kernel
theorem d_51_26 : decode (xB 51) 26 = .ok (.return_, 1) := by decide +kernel
theorem d_52_0 : decode (xB 52) 0 = .ok (.iconst 1, 1) := by decide +kernel
theorem d_52_1 : decode (xB 52) 1 = .ok (.istore_n 3, 1) := by decide +kernel
theorem d_52_2 : decode (xB 52) 2 = .ok (.iload_n 3, 1) := by decide +kernel
theorem d_52_3 : decode (xB 52) 3 = .ok (.iconst 4, 1) := by decide +kernel
theorem d_52_4 : decode (xB 52) 4 = .ok (.if_icmp .gt 34, 3) := by decide +kernel
theorem d_52_7 : decode (xB 52) 7 = .ok (.aload_n 0, 1) := by decide +kernel
theorem d_52_8 : decode (xB 52) 8 = .ok (.getfield 21, 3) := by decide +kernel
theorem d_52_11 : decode (xB 52) 11 = .ok (.iload_n 3, 1) := by decide +kernel
theorem d_52_12 : decode (xB 52) 12 = .ok (.iload_n 1, 1) := by decide +kernel
theorem d_52_13 : decode (xB 52) 13 = .ok (.aload_n 0, 1) := by decide +kernel
theorem d_52_14 : decode (xB 52) 14 = .ok (.getfield 35, 3) := by decide +kernel
theorem d_52_17 : decode (xB 52) 17 = .ok (.invokestatic 229, 3) := by decide +kernel
theorem d_52_20 : decode (xB 52) 20 = .ok (.iload_n 3, 1) := by decide +kernel
theorem d_52_21 : decode (xB 52) 21 = .ok (.iload_n 2, 1) := by decide +kernel
theorem d_52_22 : decode (xB 52) 22 = .ok (.aload_n 0, 1) := by decide +kernel
theorem d_52_23 : decode (xB 52) 23 = .ok (.getfield 38, 3) := by decide +kernel
theorem d_52_26 : decode (xB 52) 26 = .ok (.invokestatic 229, 3) := by decide +kernel
theorem d_52_29 : decode (xB 52) 29 = .ok (.invokevirtual 208, 3) := by decide +kernel
theorem d_52_32 : decode (xB 52) 32 = .ok (.iinc 3 1, 3) := by decide +kernel
theorem d_52_35 : decode (xB 52) 35 = .ok (.goto (-33), 3) := by decide +kernel
theorem d_52_38 : decode (xB 52) 38 = .ok (.return_, 1) := by decide +kernel
theorem d_53_0 : decode (xB 53) 0 = .ok (.iconst 4, 1) := by decide +kernel
theorem d_53_1 : decode (xB 53) 1 = .ok (.iload_n 0, 1) := by decide +kernel
theorem d_53_2 : decode (xB 53) 2 = .ok (.isub, 1) := by decide +kernel
theorem d_53_3 : decode (xB 53) 3 = .ok (.istore_n 3, 1) := by decide +kernel
theorem d_53_4 : decode (xB 53) 4 = .ok (.iload_n 1, 1) := by decide +kernel
theorem d_53_5 : decode (xB 53) 5 = .ok (.iload_n 3, 1) := by decide +kernel
theorem d_53_6 : decode (xB 53) 6 = .ok (.imul, 1) := by decide +kernel
theorem d_53_7 : decode (xB 53) 7 = .ok (.iload_n 3, 1) := by decide +kernel
theorem d_53_8 : decode (xB 53) 8 = .ok (.imul, 1) := by decide +kernel
theorem d_53_9 : decode (xB 53) 9 = .ok (.iload_n 3, 1) := by decide +kernel
theorem d_53_10 : decode (xB 53) 10 = .ok (.imul, 1) := by decide +kernel
theorem d_53_11 : decode (xB 53) 11 = .ok (.iconst 3, 1) := by decide +kernel
theorem d_53_12 : decode (xB 53) 12 = .ok (.aload_n 2, 1) := by decide +kernel
theorem d_53_13 : decode (xB 53) 13 = .ok (.iconst 0, 1) := by decide +kernel
theorem d_53_14 : decode (xB 53) 14 = .ok (.iaload, 1) := by decide +kernel
theorem d_53_15 : decode (xB 53) 15 = .ok (.imul, 1) := by decide +kernel
theorem d_53_16 : decode (xB 53) 16 = .ok (.iload_n 0, 1) := by decide +kernel
theorem d_53_17 : decode (xB 53) 17 = .ok (.imul, 1) := by decide +kernel
theorem d_53_18 : decode (xB 53) 18 = .ok (.iload_n 3, 1) := by decide +kernel
theorem d_53_19 : decode (xB 53) 19 = .ok (.imul, 1) := by decide +kernel
theorem d_53_20 : decode (xB 53) 20 = .ok (.iload_n 3, 1) := by decide +kernel
theorem d_53_21 : decode (xB 53) 21 = .ok (.imul, 1) := by decide +kernel
theorem d_53_22 : decode (xB 53) 22 = .ok (.iadd, 1) := by decide +kernel
theorem d_53_23 : decode (xB 53) 23 = .ok (.iconst 3, 1) := by decide +kernel
theorem d_53_24 : decode (xB 53) 24 = .ok (.aload_n 2, 1) := by decide +kernel
theorem d_53_25 : decode (xB 53) 25 = .ok (.iconst 1, 1) := by decide +kernel
theorem d_53_26 : decode (xB 53) 26 = .ok (.iaload, 1) := by decide +kernel
theorem d_53_27 : decode (xB 53) 27 = .ok (.imul, 1) := by decide +kernel
theorem d_53_28 : decode (xB 53) 28 = .ok (.iload_n 0, 1) := by decide +kernel
theorem d_53_29 : decode (xB 53) 29 = .ok (.imul, 1) := by decide +kernel
theorem d_53_30 : decode (xB 53) 30 = .ok (.iload_n 0, 1) := by decide +kernel
theorem d_53_31 : decode (xB 53) 31 = .ok (.imul, 1) := by decide +kernel
theorem d_53_32 : decode (xB 53) 32 = .ok (.iload_n 3, 1) := by decide +kernel
theorem d_53_33 : decode (xB 53) 33 = .ok (.imul, 1) := by decide +kernel
theorem d_53_34 : decode (xB 53) 34 = .ok (.iadd, 1) := by decide +kernel
theorem d_53_35 : decode (xB 53) 35 = .ok (.aload_n 2, 1) := by decide +kernel
theorem d_53_36 : decode (xB 53) 36 = .ok (.iconst 2, 1) := by decide +kernel
theorem d_53_37 : decode (xB 53) 37 = .ok (.iaload, 1) := by decide +kernel
theorem d_53_38 : decode (xB 53) 38 = .ok (.iload_n 0, 1) := by decide +kernel
theorem d_53_39 : decode (xB 53) 39 = .ok (.imul, 1) := by decide +kernel
theorem d_53_40 : decode (xB 53) 40 = .ok (.iload_n 0, 1) := by decide +kernel
theorem d_53_41 : decode (xB 53) 41 = .ok (.imul, 1) := by decide +kernel
theorem d_53_42 : decode (xB 53) 42 = .ok (.iload_n 0, 1) := by decide +kernel
theorem d_53_43 : decode (xB 53) 43 = .ok (.imul, 1) := by decide +kernel
theorem d_53_44 : decode (xB 53) 44 = .ok (.iadd, 1) := by decide +kernel
theorem d_53_45 : decode (xB 53) 45 = .ok (.istore 4, 2) := by decide +kernel
theorem d_53_47 : decode (xB 53) 47 = .ok (.iload 4, 2) := by decide +kernel
theorem d_53_49 : decode (xB 53) 49 = .ok (.bipush 32, 2) := by decide +kernel
theorem d_53_51 : decode (xB 53) 51 = .ok (.iadd, 1) := by decide +kernel
theorem d_53_52 : decode (xB 53) 52 = .ok (.bipush 64, 2) := by decide +kernel
theorem d_53_54 : decode (xB 53) 54 = .ok (.invokestatic 233, 3) := by decide +kernel
theorem d_53_57 : decode (xB 53) 57 = .ok (.ireturn, 1) := by decide +kernel
theorem d_54_0 : decode (xB 54) 0 = .ok (.iload_n 0, 1) := by decide +kernel
theorem d_54_1 : decode (xB 54) 1 = .ok (.iload_n 1, 1) := by decide +kernel
theorem d_54_2 : decode (xB 54) 2 = .ok (.idiv, 1) := by decide +kernel
theorem d_54_3 : decode (xB 54) 3 = .ok (.istore_n 2, 1) := by decide +kernel
theorem d_54_4 : decode (xB 54) 4 = .ok (.iload_n 0, 1) := by decide +kernel
theorem d_54_5 : decode (xB 54) 5 = .ok (.iload_n 1, 1) := by decide +kernel
theorem d_54_6 : decode (xB 54) 6 = .ok (.ixor, 1) := by decide +kernel
theorem d_54_7 : decode (xB 54) 7 = .ok (.ifCond .ge 14, 3) := by decide +kernel
theorem d_54_10 : decode (xB 54) 10 = .ok (.iload_n 2, 1) := by decide +kernel
theorem d_54_11 : decode (xB 54) 11 = .ok (.iload_n 1, 1) := by decide +kernel
theorem d_54_12 : decode (xB 54) 12 = .ok (.imul, 1) := by decide +kernel
theorem d_54_13 : decode (xB 54) 13 = .ok (.iload_n 0, 1) := by decide +kernel
theorem d_54_14 : decode (xB 54) 14 = .ok (.if_icmp .eq 7, 3) := by decide +kernel
theorem d_54_17 : decode (xB 54) 17 = .ok (.iload_n 2, 1) := by decide +kernel
theorem d_54_18 : decode (xB 54) 18 = .ok (.iconst 1, 1) := by decide +kernel
theorem d_54_19 : decode (xB 54) 19 = .ok (.isub, 1) := by decide +kernel
theorem d_54_20 : decode (xB 54) 20 = .ok (.ireturn, 1) := by decide +kernel
theorem d_54_21 : decode (xB 54) 21 = .ok (.iload_n 2, 1) := by decide +kernel
theorem d_54_22 : decode (xB 54) 22 = .ok (.ireturn, 1) := by decide +kernel
theorem d_55_0 : decode (xB 55) 0 = .ok (.iload_n 1, 1) := by decide +kernel
theorem d_55_1 : decode (xB 55) 1 = .ok (.lookupswitch 91 #[(87, 51), (102, 67), (110, 83), (10839, 59), (10854, 75)], 51) := by decide +kernel
theorem d_55_52 : decode (xB 55) 52 = .ok (.aload_n 0, 1) := by decide +kernel
theorem d_55_53 : decode (xB 55) 53 = .ok (.iconst 1, 1) := by decide +kernel
theorem d_55_54 : decode (xB 55) 54 = .ok (.putfield 62, 3) := by decide +kernel
theorem d_55_57 : decode (xB 55) 57 = .ok (.goto 35, 3) := by decide +kernel
theorem d_55_60 : decode (xB 55) 60 = .ok (.aload_n 0, 1) := by decide +kernel
theorem d_55_61 : decode (xB 55) 61 = .ok (.iconst 2, 1) := by decide +kernel
theorem d_55_62 : decode (xB 55) 62 = .ok (.putfield 62, 3) := by decide +kernel
theorem d_55_65 : decode (xB 55) 65 = .ok (.goto 27, 3) := by decide +kernel
theorem d_55_68 : decode (xB 55) 68 = .ok (.aload_n 0, 1) := by decide +kernel
theorem d_55_69 : decode (xB 55) 69 = .ok (.iconst 1, 1) := by decide +kernel
theorem d_55_70 : decode (xB 55) 70 = .ok (.invokevirtual 226, 3) := by decide +kernel
theorem d_55_73 : decode (xB 55) 73 = .ok (.goto 19, 3) := by decide +kernel
theorem d_55_76 : decode (xB 55) 76 = .ok (.aload_n 0, 1) := by decide +kernel
theorem d_55_77 : decode (xB 55) 77 = .ok (.iconst 2, 1) := by decide +kernel
theorem d_55_78 : decode (xB 55) 78 = .ok (.invokevirtual 226, 3) := by decide +kernel
theorem d_55_81 : decode (xB 55) 81 = .ok (.goto 11, 3) := by decide +kernel
theorem d_55_84 : decode (xB 55) 84 = .ok (.aload_n 0, 1) := by decide +kernel
theorem d_55_85 : decode (xB 55) 85 = .ok (.iconst 0, 1) := by decide +kernel
theorem d_55_86 : decode (xB 55) 86 = .ok (.invokevirtual 226, 3) := by decide +kernel
theorem d_55_89 : decode (xB 55) 89 = .ok (.goto 3, 3) := by decide +kernel
theorem d_55_92 : decode (xB 55) 92 = .ok (.return_, 1) := by decide +kernel
theorem d_56_0 : decode (xB 56) 0 = .ok (.aload_n 0, 1) := by decide +kernel
theorem d_56_1 : decode (xB 56) 1 = .ok (.getfield 21, 3) := by decide +kernel
theorem d_56_4 : decode (xB 56) 4 = .ok (.invokevirtual 236, 3) := by decide +kernel
theorem d_56_7 : decode (xB 56) 7 = .ok (.aload_n 0, 1) := by decide +kernel
theorem d_56_8 : decode (xB 56) 8 = .ok (.invokevirtual 77, 3) := by decide +kernel
theorem d_56_11 : decode (xB 56) 11 = .ok (.astore_n 2, 1) := by decide +kernel
theorem d_56_12 : decode (xB 56) 12 = .ok (.iconst 0, 1) := by decide +kernel
theorem d_56_13 : decode (xB 56) 13 = .ok (.istore_n 3, 1) := by decide +kernel
theorem d_56_14 : decode (xB 56) 14 = .ok (.iload_n 3, 1) := by decide +kernel
theorem d_56_15 : decode (xB 56) 15 = .ok (.aload_n 0, 1) := by decide +kernel
theorem d_56_16 : decode (xB 56) 16 = .ok (.getfield 12, 3) := by decide +kernel
theorem d_56_19 : decode (xB 56) 19 = .ok (.getfield 239, 3) := by decide +kernel
theorem d_56_22 : decode (xB 56) 22 = .ok (.if_icmp .ge 83, 3) := by decide +kernel
theorem d_56_25 : decode (xB 56) 25 = .ok (.iload_n 1, 1) := by decide +kernel
theorem d_56_26 : decode (xB 56) 26 = .ok (.ifCond .eq 38, 3) := by decide +kernel
theorem d_56_29 : decode (xB 56) 29 = .ok (.aload_n 0, 1) := by decide +kernel
theorem d_56_30 : decode (xB 56) 30 = .ok (.getfield 12, 3) := by decide +kernel
theorem d_56_33 : decode (xB 56) 33 = .ok (.iload_n 3, 1) := by decide +kernel
theorem d_56_34 : decode (xB 56) 34 = .ok (.aload_n 0, 1) := by decide +kernel
theorem d_56_35 : decode (xB 56) 35 = .ok (.getfield 21, 3) := by decide +kernel
theorem d_56_38 : decode (xB 56) 38 = .ok (.iload_n 3, 1) := by decide +kernel
theorem d_56_39 : decode (xB 56) 39 = .ok (.aload_n 0, 1) := by decide +kernel
theorem d_56_40 : decode (xB 56) 40 = .ok (.getfield 12, 3) := by decide +kernel
theorem d_56_43 : decode (xB 56) 43 = .ok (.getfield 242, 3) := by decide +kernel
theorem d_56_46 : decode (xB 56) 46 = .ok (.iload_n 1, 1) := by decide +kernel
theorem d_56_47 : decode (xB 56) 47 = .ok (.invokevirtual 245, 3) := by decide +kernel
theorem d_56_50 : decode (xB 56) 50 = .ok (.aload_n 2, 1) := by decide +kernel
theorem d_56_51 : decode (xB 56) 51 = .ok (.getfield 249, 3) := by decide +kernel
theorem d_56_54 : decode (xB 56) 54 = .ok (.iload_n 3, 1) := by decide +kernel
theorem d_56_55 : decode (xB 56) 55 = .ok (.iaload, 1) := by decide +kernel
theorem d_56_56 : decode (xB 56) 56 = .ok (.iand, 1) := by decide +kernel
theorem d_56_57 : decode (xB 56) 57 = .ok (.aload_n 2, 1) := by decide +kernel
theorem d_56_58 : decode (xB 56) 58 = .ok (.getfield 202, 3) := by decide +kernel
theorem d_56_61 : decode (xB 56) 61 = .ok (.invokevirtual 252, 3) := by decide +kernel
theorem d_56_64 : decode (xB 56) 64 = .ok (.aload_n 0, 1) := by decide +kernel
theorem d_56_65 : decode (xB 56) 65 = .ok (.getfield 62, 3) := by decide +kernel
theorem d_56_68 : decode (xB 56) 68 = .ok (.ifCond .eq 31, 3) := by decide +kernel
theorem d_56_71 : decode (xB 56) 71 = .ok (.aload_n 2, 1) := by decide +kernel
theorem d_56_72 : decode (xB 56) 72 = .ok (.getfield 249, 3) := by decide +kernel
theorem d_56_75 : decode (xB 56) 75 = .ok (.iload_n 3, 1) := by decide +kernel
theorem d_56_76 : decode (xB 56) 76 = .ok (.dup2, 1) := by decide +kernel
theorem d_56_77 : decode (xB 56) 77 = .ok (.iaload, 1) := by decide +kernel
theorem d_56_78 : decode (xB 56) 78 = .ok (.aload_n 0, 1) := by decide +kernel
theorem d_56_79 : decode (xB 56) 79 = .ok (.getfield 21, 3) := by decide +kernel
theorem d_56_82 : decode (xB 56) 82 = .ok (.iload_n 3, 1) := by decide +kernel
theorem d_56_83 : decode (xB 56) 83 = .ok (.aload_n 0, 1) := by decide +kernel
theorem d_56_84 : decode (xB 56) 84 = .ok (.getfield 12, 3) := by decide +kernel
theorem d_56_87 : decode (xB 56) 87 = .ok (.getfield 242, 3) := by decide +kernel
theorem d_56_90 : decode (xB 56) 90 = .ok (.aload_n 0, 1) := by decide +kernel
theorem d_56_91 : decode (xB 56) 91 = .ok (.getfield 62, 3) := by decide +kernel
theorem d_56_94 : decode (xB 56) 94 = .ok (.invokevirtual 245, 3) := by decide +kernel
theorem d_56_97 : decode (xB 56) 97 = .ok (.iand, 1) := by decide +kernel
theorem d_56_98 : decode (xB 56) 98 = .ok (.iastore, 1) := by decide +kernel
theorem d_56_99 : decode (xB 56) 99 = .ok (.iinc 3 1, 3) := by decide +kernel
theorem d_56_102 : decode (xB 56) 102 = .ok (.goto (-88), 3) := by decide +kernel
theorem d_56_105 : decode (xB 56) 105 = .ok (.aload_n 0, 1) := by decide +kernel
theorem d_56_106 : decode (xB 56) 106 = .ok (.dup, 1) := by decide +kernel
theorem d_56_107 : decode (xB 56) 107 = .ok (.getfield 68, 3) := by decide +kernel
theorem d_56_110 : decode (xB 56) 110 = .ok (.iload_n 1, 1) := by decide +kernel
theorem d_56_111 : decode (xB 56) 111 = .ok (.ifCond .eq 7, 3) := by decide +kernel
theorem d_56_114 : decode (xB 56) 114 = .ok (.iconst 1, 1) := by decide +kernel
theorem d_56_115 : decode (xB 56) 115 = .ok (.goto 4, 3) := by decide +kernel
theorem d_56_118 : decode (xB 56) 118 = .ok (.iconst 0, 1) := by decide +kernel
theorem d_56_119 : decode (xB 56) 119 = .ok (.iadd, 1) := by decide +kernel
theorem d_56_120 : decode (xB 56) 120 = .ok (.putfield 68, 3) := by decide +kernel
theorem d_56_123 : decode (xB 56) 123 = .ok (.aload_n 0, 1) := by decide +kernel
theorem d_56_124 : decode (xB 56) 124 = .ok (.aload_n 0, 1) := by decide +kernel
theorem d_56_125 : decode (xB 56) 125 = .ok (.getfield 71, 3) := by decide +kernel
theorem d_56_128 : decode (xB 56) 128 = .ok (.aload_n 0, 1) := by decide +kernel
theorem d_56_129 : decode (xB 56) 129 = .ok (.getfield 21, 3) := by decide +kernel
theorem d_56_132 : decode (xB 56) 132 = .ok (.getfield 163, 3) := by decide +kernel
theorem d_56_135 : decode (xB 56) 135 = .ok (.invokestatic 118, 3) := by decide +kernel
theorem d_56_138 : decode (xB 56) 138 = .ok (.putfield 71, 3) := by decide +kernel
theorem d_56_141 : decode (xB 56) 141 = .ok (.aload_n 0, 1) := by decide +kernel
theorem d_56_142 : decode (xB 56) 142 = .ok (.iconst 0, 1) := by decide +kernel
theorem d_56_143 : decode (xB 56) 143 = .ok (.putfield 62, 3) := by decide +kernel
theorem d_56_146 : decode (xB 56) 146 = .ok (.aload_n 0, 1) := by decide +kernel
theorem d_56_147 : decode (xB 56) 147 = .ok (.getfield 21, 3) := by decide +kernel
theorem d_56_150 : decode (xB 56) 150 = .ok (.invokevirtual 56, 3) := by decide +kernel
theorem d_56_153 : decode (xB 56) 153 = .ok (.return_, 1) := by decide +kernel
theorem d_57_0 : decode (xB 57) 0 = .ok (.aload_n 0, 1) := by decide +kernel
theorem d_57_1 : decode (xB 57) 1 = .ok (.getfield 24, 3) := by decide +kernel
theorem d_57_4 : decode (xB 57) 4 = .ok (.iconst 0, 1) := by decide +kernel
theorem d_57_5 : decode (xB 57) 5 = .ok (.invokestatic 57, 3) := by decide +kernel
theorem d_57_8 : decode (xB 57) 8 = .ok (.iconst 0, 1) := by decide +kernel
theorem d_57_9 : decode (xB 57) 9 = .ok (.istore 4, 2) := by decide +kernel
theorem d_57_11 : decode (xB 57) 11 = .ok (.iload 4, 2) := by decide +kernel
theorem d_57_13 : decode (xB 57) 13 = .ok (.aload_n 0, 1) := by decide +kernel
theorem d_57_14 : decode (xB 57) 14 = .ok (.getfield 27, 3) := by decide +kernel
theorem d_57_17 : decode (xB 57) 17 = .ok (.if_icmp .ge 74, 3) := by decide +kernel
theorem d_57_20 : decode (xB 57) 20 = .ok (.aload_n 0, 1) := by decide +kernel
theorem d_57_21 : decode (xB 57) 21 = .ok (.getfield 15, 3) := by decide +kernel
theorem d_57_24 : decode (xB 57) 24 = .ok (.iload 4, 2) := by decide +kernel
theorem d_57_26 : decode (xB 57) 26 = .ok (.iaload, 1) := by decide +kernel
theorem d_57_27 : decode (xB 57) 27 = .ok (.iload_n 1, 1) := by decide +kernel
theorem d_57_28 : decode (xB 57) 28 = .ok (.if_icmp .gt 26, 3) := by decide +kernel
theorem d_57_31 : decode (xB 57) 31 = .ok (.iload_n 1, 1) := by decide +kernel
theorem d_57_32 : decode (xB 57) 32 = .ok (.aload_n 0, 1) := by decide +kernel
theorem d_57_33 : decode (xB 57) 33 = .ok (.getfield 21, 3) := by decide +kernel
theorem d_57_36 : decode (xB 57) 36 = .ok (.iload 4, 2) := by decide +kernel
theorem d_57_38 : decode (xB 57) 38 = .ok (.iaload, 1) := by decide +kernel
theorem d_57_39 : decode (xB 57) 39 = .ok (.if_icmp .ge 15, 3) := by decide +kernel
theorem d_57_42 : decode (xB 57) 42 = .ok (.aload_n 0, 1) := by decide +kernel
theorem d_57_43 : decode (xB 57) 43 = .ok (.iload 4, 2) := by decide +kernel
theorem d_57_45 : decode (xB 57) 45 = .ok (.iload_n 1, 1) := by decide +kernel
theorem d_57_46 : decode (xB 57) 46 = .ok (.iload_n 2, 1) := by decide +kernel
theorem d_57_47 : decode (xB 57) 47 = .ok (.iconst 1, 1) := by decide +kernel
theorem d_57_48 : decode (xB 57) 48 = .ok (.invokevirtual 63, 3) := by decide +kernel
theorem d_57_51 : decode (xB 57) 51 = .ok (.goto 34, 3) := by decide +kernel
theorem d_57_54 : decode (xB 57) 54 = .ok (.aload_n 0, 1) := by decide +kernel
theorem d_57_55 : decode (xB 57) 55 = .ok (.getfield 21, 3) := by decide +kernel
theorem d_57_58 : decode (xB 57) 58 = .ok (.iload 4, 2) := by decide +kernel
theorem d_57_60 : decode (xB 57) 60 = .ok (.iaload, 1) := by decide +kernel
theorem d_57_61 : decode (xB 57) 61 = .ok (.iload_n 1, 1) := by decide +kernel
theorem d_57_62 : decode (xB 57) 62 = .ok (.if_icmp .gt 23, 3) := by decide +kernel
theorem d_57_65 : decode (xB 57) 65 = .ok (.iload_n 1, 1) := by decide +kernel
theorem d_57_66 : decode (xB 57) 66 = .ok (.aload_n 0, 1) := by decide +kernel
theorem d_57_67 : decode (xB 57) 67 = .ok (.getfield 15, 3) := by decide +kernel
theorem d_57_70 : decode (xB 57) 70 = .ok (.iload 4, 2) := by decide +kernel
theorem d_57_72 : decode (xB 57) 72 = .ok (.iaload, 1) := by decide +kernel
theorem d_57_73 : decode (xB 57) 73 = .ok (.if_icmp .ge 12, 3) := by decide +kernel
theorem d_57_76 : decode (xB 57) 76 = .ok (.aload_n 0, 1) := by decide +kernel
theorem d_57_77 : decode (xB 57) 77 = .ok (.iload 4, 2) := by decide +kernel
theorem d_57_79 : decode (xB 57) 79 = .ok (.iload_n 1, 1) := by decide +kernel
theorem d_57_80 : decode (xB 57) 80 = .ok (.iload_n 2, 1) := by decide +kernel
theorem d_57_81 : decode (xB 57) 81 = .ok (.iconst (-1), 1) := by decide +kernel
theorem d_57_82 : decode (xB 57) 82 = .ok (.invokevirtual 63, 3) := by decide +kernel
theorem d_57_85 : decode (xB 57) 85 = .ok (.iinc 4 1, 3) := by decide +kernel
theorem d_57_88 : decode (xB 57) 88 = .ok (.goto (-77), 3) := by decide +kernel
theorem d_57_91 : decode (xB 57) 91 = .ok (.iload_n 3, 1) := by decide +kernel
theorem d_57_92 : decode (xB 57) 92 = .ok (.iconst 2, 1) := by decide +kernel
theorem d_57_93 : decode (xB 57) 93 = .ok (.if_icmp .ne 7, 3) := by decide +kernel
theorem d_57_96 : decode (xB 57) 96 = .ok (.iconst 1, 1) := by decide +kernel
theorem d_57_97 : decode (xB 57) 97 = .ok (.goto 4, 3) := by decide +kernel
theorem d_57_100 : decode (xB 57) 100 = .ok (.iconst (-1), 1) := by decide +kernel
theorem d_57_101 : decode (xB 57) 101 = .ok (.istore 4, 2) := by decide +kernel
theorem d_57_103 : decode (xB 57) 103 = .ok (.iconst 0, 1) := by decide +kernel
theorem d_57_104 : decode (xB 57) 104 = .ok (.istore 5, 2) := by decide +kernel
theorem d_57_106 : decode (xB 57) 106 = .ok (.iconst 0, 1) := by decide +kernel
theorem d_57_107 : decode (xB 57) 107 = .ok (.istore 6, 2) := by decide +kernel
theorem d_57_109 : decode (xB 57) 109 = .ok (.iload 6, 2) := by decide +kernel
theorem d_57_111 : decode (xB 57) 111 = .ok (.iload_n 2, 1) := by decide +kernel
theorem d_57_112 : decode (xB 57) 112 = .ok (.if_icmp .ge 31, 3) := by decide +kernel
theorem d_57_115 : decode (xB 57) 115 = .ok (.aload_n 0, 1) := by decide +kernel
theorem d_57_116 : decode (xB 57) 116 = .ok (.getfield 24, 3) := by decide +kernel
theorem d_57_119 : decode (xB 57) 119 = .ok (.iload 6, 2) := by decide +kernel
theorem d_57_121 : decode (xB 57) 121 = .ok (.iaload, 1) := by decide +kernel
theorem d_57_122 : decode (xB 57) 122 = .ok (.iload 4, 2) := by decide +kernel
theorem d_57_124 : decode (xB 57) 124 = .ok (.iand, 1) := by decide +kernel
theorem d_57_125 : decode (xB 57) 125 = .ok (.ifCond .eq 12, 3) := by decide +kernel
theorem d_57_128 : decode (xB 57) 128 = .ok (.iload 5, 2) := by decide +kernel
theorem d_57_130 : decode (xB 57) 130 = .ok (.iconst 1, 1) := by decide +kernel
theorem d_57_131 : decode (xB 57) 131 = .ok (.iload 6, 2) := by decide +kernel
theorem d_57_133 : decode (xB 57) 133 = .ok (.ishl, 1) := by decide +kernel
theorem d_57_134 : decode (xB 57) 134 = .ok (.ior, 1) := by decide +kernel
theorem d_57_135 : decode (xB 57) 135 = .ok (.istore 5, 2) := by decide +kernel
theorem d_57_137 : decode (xB 57) 137 = .ok (.iinc 6 1, 3) := by decide +kernel
theorem d_57_140 : decode (xB 57) 140 = .ok (.goto (-31), 3) := by decide +kernel
theorem d_57_143 : decode (xB 57) 143 = .ok (.iload 5, 2) := by decide +kernel
theorem d_57_145 : decode (xB 57) 145 = .ok (.ireturn, 1) := by decide +kernel
theorem d_58_0 : decode (xB 58) 0 = .ok (.aload_n 0, 1) := by decide +kernel
theorem d_58_1 : decode (xB 58) 1 = .ok (.getfield 21, 3) := by decide +kernel
theorem d_58_4 : decode (xB 58) 4 = .ok (.iload_n 1, 1) := by decide +kernel
theorem d_58_5 : decode (xB 58) 5 = .ok (.iaload, 1) := by decide +kernel
theorem d_58_6 : decode (xB 58) 6 = .ok (.i2l, 1) := by decide +kernel
theorem d_58_7 : decode (xB 58) 7 = .ok (.aload_n 0, 1) := by decide +kernel
theorem d_58_8 : decode (xB 58) 8 = .ok (.getfield 15, 3) := by decide +kernel
theorem d_58_11 : decode (xB 58) 11 = .ok (.iload_n 1, 1) := by decide +kernel
theorem d_58_12 : decode (xB 58) 12 = .ok (.iaload, 1) := by decide +kernel
theorem d_58_13 : decode (xB 58) 13 = .ok (.i2l, 1) := by decide +kernel
theorem d_58_14 : decode (xB 58) 14 = .ok (.lsub, 1) := by decide +kernel
theorem d_58_15 : decode (xB 58) 15 = .ok (.lstore 5, 2) := by decide +kernel
theorem d_58_17 : decode (xB 58) 17 = .ok (.aload_n 0, 1) := by decide +kernel
theorem d_58_18 : decode (xB 58) 18 = .ok (.getfield 18, 3) := by decide +kernel
theorem d_58_21 : decode (xB 58) 21 = .ok (.iload_n 1, 1) := by decide +kernel
theorem d_58_22 : decode (xB 58) 22 = .ok (.iaload, 1) := by decide +kernel
theorem d_58_23 : decode (xB 58) 23 = .ok (.i2l, 1) := by decide +kernel
theorem d_58_24 : decode (xB 58) 24 = .ok (.aload_n 0, 1) := by decide +kernel
theorem d_58_25 : decode (xB 58) 25 = .ok (.getfield 9, 3) := by decide +kernel
theorem d_58_28 : decode (xB 58) 28 = .ok (.iload_n 1, 1) := by decide +kernel
theorem d_58_29 : decode (xB 58) 29 = .ok (.iaload, 1) := by decide +kernel
theorem d_58_30 : decode (xB 58) 30 = .ok (.i2l, 1) := by decide +kernel
theorem d_58_31 : decode (xB 58) 31 = .ok (.lsub, 1) := by decide +kernel
theorem d_58_32 : decode (xB 58) 32 = .ok (.lstore 7, 2) := by decide +kernel
theorem d_58_34 : decode (xB 58) 34 = .ok (.iload 4, 2) := by decide +kernel
theorem d_58_36 : decode (xB 58) 36 = .ok (.i2l, 1) := by decide +kernel
theorem d_58_37 : decode (xB 58) 37 = .ok (.iconst 2, 1) := by decide +kernel
theorem d_58_38 : decode (xB 58) 38 = .ok (.aload_n 0, 1) := by decide +kernel
theorem d_58_39 : decode (xB 58) 39 = .ok (.getfield 9, 3) := by decide +kernel
theorem d_58_42 : decode (xB 58) 42 = .ok (.iload_n 1, 1) := by decide +kernel
theorem d_58_43 : decode (xB 58) 43 = .ok (.iaload, 1) := by decide +kernel
theorem d_58_44 : decode (xB 58) 44 = .ok (.imul, 1) := by decide +kernel
theorem d_58_45 : decode (xB 58) 45 = .ok (.i2l, 1) := by decide +kernel
theorem d_58_46 : decode (xB 58) 46 = .ok (.lload 5, 2) := by decide +kernel
theorem d_58_48 : decode (xB 58) 48 = .ok (.lmul, 1) := by decide +kernel
theorem d_58_49 : decode (xB 58) 49 = .ok (.lload 7, 2) := by decide +kernel
theorem d_58_51 : decode (xB 58) 51 = .ok (.iconst 2, 1) := by decide +kernel
theorem d_58_52 : decode (xB 58) 52 = .ok (.iload_n 2, 1) := by decide +kernel
theorem d_58_53 : decode (xB 58) 53 = .ok (.aload_n 0, 1) := by decide +kernel
theorem d_58_54 : decode (xB 58) 54 = .ok (.getfield 15, 3) := by decide +kernel
theorem d_58_57 : decode (xB 58) 57 = .ok (.iload_n 1, 1) := by decide +kernel
theorem d_58_58 : decode (xB 58) 58 = .ok (.iaload, 1) := by decide +kernel
theorem d_58_59 : decode (xB 58) 59 = .ok (.isub, 1) := by decide +kernel
theorem d_58_60 : decode (xB 58) 60 = .ok (.imul, 1) := by decide +kernel
theorem d_58_61 : decode (xB 58) 61 = .ok (.iconst 1, 1) := by decide +kernel
theorem d_58_62 : decode (xB 58) 62 = .ok (.iadd, 1) := by decide +kernel
theorem d_58_63 : decode (xB 58) 63 = .ok (.i2l, 1) := by decide +kernel
theorem d_58_64 : decode (xB 58) 64 = .ok (.lmul, 1) := by decide +kernel
theorem d_58_65 : decode (xB 58) 65 = .ok (.ladd, 1) := by decide +kernel
theorem d_58_66 : decode (xB 58) 66 = .ok (.lmul, 1) := by decide +kernel
theorem d_58_67 : decode (xB 58) 67 = .ok (.lstore 9, 2) := by decide +kernel
theorem d_58_69 : decode (xB 58) 69 = .ok (.iload 4, 2) := by decide +kernel
theorem d_58_71 : decode (xB 58) 71 = .ok (.i2l, 1) := by decide +kernel
theorem d_58_72 : decode (xB 58) 72 = .ok (.lload 5, 2) := by decide +kernel
theorem d_58_74 : decode (xB 58) 74 = .ok (.lmul, 1) := by decide +kernel
theorem d_58_75 : decode (xB 58) 75 = .ok (.lstore 11, 2) := by decide +kernel
theorem d_58_77 : decode (xB 58) 77 = .ok (.iconst 0, 1) := by decide +kernel
theorem d_58_78 : decode (xB 58) 78 = .ok (.istore 13, 2) := by decide +kernel
theorem d_58_80 : decode (xB 58) 80 = .ok (.iload 13, 2) := by decide +kernel
theorem d_58_82 : decode (xB 58) 82 = .ok (.iload_n 3, 1) := by decide +kernel
theorem d_58_83 : decode (xB 58) 83 = .ok (.if_icmp .ge 37, 3) := by decide +kernel
theorem d_58_86 : decode (xB 58) 86 = .ok (.iconst 2, 1) := by decide +kernel
theorem d_58_87 : decode (xB 58) 87 = .ok (.iload 13, 2) := by decide +kernel
theorem d_58_89 : decode (xB 58) 89 = .ok (.imul, 1) := by decide +kernel
theorem d_58_90 : decode (xB 58) 90 = .ok (.iconst 1, 1) := by decide +kernel
theorem d_58_91 : decode (xB 58) 91 = .ok (.iadd, 1) := by decide +kernel
theorem d_58_92 : decode (xB 58) 92 = .ok (.i2l, 1) := by decide +kernel
theorem d_58_93 : decode (xB 58) 93 = .ok (.lload 11, 2) := by decide +kernel
theorem d_58_95 : decode (xB 58) 95 = .ok (.lmul, 1) := by decide +kernel
theorem d_58_96 : decode (xB 58) 96 = .ok (.lload 9, 2) := by decide +kernel
theorem d_58_98 : decode (xB 58) 98 = .ok (.lcmp, 1) := by decide +kernel
theorem d_58_99 : decode (xB 58) 99 = .ok (.ifCond .ge 21, 3) := by decide +kernel
theorem d_58_102 : decode (xB 58) 102 = .ok (.aload_n 0, 1) := by decide +kernel
theorem d_58_103 : decode (xB 58) 103 = .ok (.getfield 24, 3) := by decide +kernel
theorem d_58_106 : decode (xB 58) 106 = .ok (.iload 13, 2) := by decide +kernel
theorem d_58_108 : decode (xB 58) 108 = .ok (.dup2, 1) := by decide +kernel
theorem d_58_109 : decode (xB 58) 109 = .ok (.iaload, 1) := by decide +kernel
theorem d_58_110 : decode (xB 58) 110 = .ok (.iload 4, 2) := by decide +kernel
theorem d_58_112 : decode (xB 58) 112 = .ok (.iadd, 1) := by decide +kernel
theorem d_58_113 : decode (xB 58) 113 = .ok (.iastore, 1) := by decide +kernel
theorem d_58_114 : decode (xB 58) 114 = .ok (.iinc 13 1, 3) := by decide +kernel
theorem d_58_117 : decode (xB 58) 117 = .ok (.goto (-37), 3) := by decide +kernel
theorem d_58_120 : decode (xB 58) 120 = .ok (.return_, 1) := by decide +kernel
theorem d_59_0 : decode (xB 59) 0 = .ok (.iconst 0, 1) := by decide +kernel
theorem d_59_1 : decode (xB 59) 1 = .ok (.istore 4, 2) := by decide +kernel
theorem d_59_3 : decode (xB 59) 3 = .ok (.iload 4, 2) := by decide +kernel
theorem d_59_5 : decode (xB 59) 5 = .ok (.aload_n 0, 1) := by decide +kernel
theorem d_59_6 : decode (xB 59) 6 = .ok (.getfield 15, 3) := by decide +kernel
theorem d_59_9 : decode (xB 59) 9 = .ok (.if_icmp .ge 31, 3) := by decide +kernel
theorem d_59_12 : decode (xB 59) 12 = .ok (.iload_n 2, 1) := by decide +kernel
theorem d_59_13 : decode (xB 59) 13 = .ok (.iload 4, 2) := by decide +kernel
theorem d_59_15 : decode (xB 59) 15 = .ok (.ishr, 1) := by decide +kernel
theorem d_59_16 : decode (xB 59) 16 = .ok (.iconst 1, 1) := by decide +kernel
theorem d_59_17 : decode (xB 59) 17 = .ok (.iand, 1) := by decide +kernel
theorem d_59_18 : decode (xB 59) 18 = .ok (.ifCond .eq 16, 3) := by decide +kernel
theorem d_59_21 : decode (xB 59) 21 = .ok (.aload_n 0, 1) := by decide +kernel
theorem d_59_22 : decode (xB 59) 22 = .ok (.getfield 9, 3) := by decide +kernel
theorem d_59_25 : decode (xB 59) 25 = .ok (.iload_n 1, 1) := by decide +kernel
theorem d_59_26 : decode (xB 59) 26 = .ok (.bipush 20, 2) := by decide +kernel
theorem d_59_28 : decode (xB 59) 28 = .ok (.imul, 1) := by decide +kernel
theorem d_59_29 : decode (xB 59) 29 = .ok (.iload 4, 2) := by decide +kernel
theorem d_59_31 : decode (xB 59) 31 = .ok (.iadd, 1) := by decide +kernel
theorem d_59_32 : decode (xB 59) 32 = .ok (.iload_n 3, 1) := by decide +kernel
theorem d_59_33 : decode (xB 59) 33 = .ok (.iastore, 1) := by decide +kernel
theorem d_59_34 : decode (xB 59) 34 = .ok (.iinc 4 1, 3) := by decide +kernel
theorem d_59_37 : decode (xB 59) 37 = .ok (.goto (-34), 3) := by decide +kernel
theorem d_59_40 : decode (xB 59) 40 = .ok (.return_, 1) := by decide +kernel
theorem d_60_0 : decode (xB 60) 0 = .ok (.aload_n 0, 1) := by decide +kernel
theorem d_60_1 : decode (xB 60) 1 = .ok (.getfield 59, 3) := by decide +kernel
theorem d_60_4 : decode (xB 60) 4 = .ok (.ifCond .le 5, 3) := by decide +kernel
theorem d_60_7 : decode (xB 60) 7 = .ok (.iconst 3, 1) := by decide +kernel
theorem d_60_8 : decode (xB 60) 8 = .ok (.ireturn, 1) := by decide +kernel
theorem d_60_9 : decode (xB 60) 9 = .ok (.aload_n 0, 1) := by decide +kernel
theorem d_60_10 : decode (xB 60) 10 = .ok (.getfield 21, 3) := by decide +kernel
theorem d_60_13 : decode (xB 60) 13 = .ok (.getfield 127, 3) := by decide +kernel
theorem d_60_16 : decode (xB 60) 16 = .ok (.ifCond .eq 6, 3) := by decide +kernel
theorem d_60_19 : decode (xB 60) 19 = .ok (.bipush 11, 2) := by decide +kernel
theorem d_60_21 : decode (xB 60) 21 = .ok (.ireturn, 1) := by decide +kernel
theorem d_60_22 : decode (xB 60) 22 = .ok (.aload_n 0, 1) := by decide +kernel
theorem d_60_23 : decode (xB 60) 23 = .ok (.getfield 49, 3) := by decide +kernel
theorem d_60_26 : decode (xB 60) 26 = .ok (.ifCond .le 8, 3) := by decide +kernel
theorem d_60_29 : decode (xB 60) 29 = .ok (.bipush 9, 2) := by decide +kernel
theorem d_60_31 : decode (xB 60) 31 = .ok (.goto 4, 3) := by decide +kernel
theorem d_60_34 : decode (xB 60) 34 = .ok (.iconst 0, 1) := by decide +kernel
theorem d_60_35 : decode (xB 60) 35 = .ok (.ireturn, 1) := by decide +kernel
theorem d_61_0 : decode (xB 61) 0 = .ok (.aload_n 0, 1) := by decide +kernel
theorem d_61_1 : decode (xB 61) 1 = .ok (.getfield 19, 3) := by decide +kernel
theorem d_61_4 : decode (xB 61) 4 = .ok (.getfield 39, 3) := by decide +kernel
theorem d_61_7 : decode (xB 61) 7 = .ok (.ireturn, 1) := by decide +kernel
theorem d_62_0 : decode (xB 62) 0 = .ok (.aload_n 0, 1) := by decide +kernel
theorem d_62_1 : decode (xB 62) 1 = .ok (.getfield 19, 3) := by decide +kernel
theorem d_62_4 : decode (xB 62) 4 = .ok (.getfield 42, 3) := by decide +kernel
theorem d_62_7 : decode (xB 62) 7 = .ok (.ireturn, 1) := by decide +kernel
theorem d_63_0 : decode (xB 63) 0 = .ok (.aload_n 0, 1) := by decide +kernel
theorem d_63_1 : decode (xB 63) 1 = .ok (.getfield 19, 3) := by decide +kernel
theorem d_63_4 : decode (xB 63) 4 = .ok (.getfield 45, 3) := by decide +kernel
theorem d_63_7 : decode (xB 63) 7 = .ok (.iload_n 1, 1) := by decide +kernel
theorem d_63_8 : decode (xB 63) 8 = .ok (.iload_n 2, 1) := by decide +kernel
theorem d_63_9 : decode (xB 63) 9 = .ok (.invokevirtual 49, 3) := by decide +kernel
theorem d_63_12 : decode (xB 63) 12 = .ok (.ireturn, 1) := by decide +kernel
theorem d_64_0 : decode (xB 64) 0 = .ok (.iload_n 1, 1) := by decide +kernel
theorem d_64_1 : decode (xB 64) 1 = .ok (.ifCond .lt 23, 3) := by decide +kernel
theorem d_64_4 : decode (xB 64) 4 = .ok (.iload_n 1, 1) := by decide +kernel
theorem d_64_5 : decode (xB 64) 5 = .ok (.aload_n 0, 1) := by decide +kernel
theorem d_64_6 : decode (xB 64) 6 = .ok (.getfield 15, 3) := by decide +kernel
theorem d_64_9 : decode (xB 64) 9 = .ok (.if_icmp .ge 15, 3) := by decide +kernel
theorem d_64_12 : decode (xB 64) 12 = .ok (.iload_n 2, 1) := by decide +kernel
theorem d_64_13 : decode (xB 64) 13 = .ok (.ifCond .lt 11, 3) := by decide +kernel
theorem d_64_16 : decode (xB 64) 16 = .ok (.iload_n 2, 1) := by decide +kernel
theorem d_64_17 : decode (xB 64) 17 = .ok (.aload_n 0, 1) := by decide +kernel
theorem d_64_18 : decode (xB 64) 18 = .ok (.getfield 19, 3) := by decide +kernel
theorem d_64_21 : decode (xB 64) 21 = .ok (.if_icmp .lt 5, 3) := by decide +kernel
theorem d_64_24 : decode (xB 64) 24 = .ok (.iconst (-1), 1) := by decide +kernel
theorem d_64_25 : decode (xB 64) 25 = .ok (.ireturn, 1) := by decide +kernel
theorem d_64_26 : decode (xB 64) 26 = .ok (.aload_n 0, 1) := by decide +kernel
theorem d_64_27 : decode (xB 64) 27 = .ok (.getfield 9, 3) := by decide +kernel
theorem d_64_30 : decode (xB 64) 30 = .ok (.iload_n 2, 1) := by decide +kernel
theorem d_64_31 : decode (xB 64) 31 = .ok (.bipush 20, 2) := by decide +kernel
theorem d_64_33 : decode (xB 64) 33 = .ok (.imul, 1) := by decide +kernel
theorem d_64_34 : decode (xB 64) 34 = .ok (.iload_n 1, 1) := by decide +kernel
theorem d_64_35 : decode (xB 64) 35 = .ok (.iadd, 1) := by decide +kernel
theorem d_64_36 : decode (xB 64) 36 = .ok (.iaload, 1) := by decide +kernel
theorem d_64_37 : decode (xB 64) 37 = .ok (.ireturn, 1) := by decide +kernel
theorem d_65_0 : decode (xB 65) 0 = .ok (.aload_n 0, 1) := by decide +kernel
theorem d_65_1 : decode (xB 65) 1 = .ok (.getfield 19, 3) := by decide +kernel
theorem d_65_4 : decode (xB 65) 4 = .ok (.getfield 45, 3) := by decide +kernel
theorem d_65_7 : decode (xB 65) 7 = .ok (.iload_n 1, 1) := by decide +kernel
theorem d_65_8 : decode (xB 65) 8 = .ok (.invokevirtual 55, 3) := by decide +kernel
theorem d_65_11 : decode (xB 65) 11 = .ok (.ireturn, 1) := by decide +kernel
theorem d_66_0 : decode (xB 66) 0 = .ok (.iconst 0, 1) := by decide +kernel
theorem d_66_1 : decode (xB 66) 1 = .ok (.istore_n 2, 1) := by decide +kernel
theorem d_66_2 : decode (xB 66) 2 = .ok (.iconst 0, 1) := by decide +kernel
theorem d_66_3 : decode (xB 66) 3 = .ok (.istore_n 3, 1) := by decide +kernel
theorem d_66_4 : decode (xB 66) 4 = .ok (.iload_n 3, 1) := by decide +kernel
theorem d_66_5 : decode (xB 66) 5 = .ok (.aload_n 0, 1) := by decide +kernel
theorem d_66_6 : decode (xB 66) 6 = .ok (.getfield 19, 3) := by decide +kernel
theorem d_66_9 : decode (xB 66) 9 = .ok (.if_icmp .ge 46, 3) := by decide +kernel
theorem d_66_12 : decode (xB 66) 12 = .ok (.iconst 0, 1) := by decide +kernel
theorem d_66_13 : decode (xB 66) 13 = .ok (.istore 4, 2) := by decide +kernel
theorem d_66_15 : decode (xB 66) 15 = .ok (.iload 4, 2) := by decide +kernel
theorem d_66_17 : decode (xB 66) 17 = .ok (.aload_n 0, 1) := by decide +kernel
theorem d_66_18 : decode (xB 66) 18 = .ok (.getfield 15, 3) := by decide +kernel
theorem d_66_21 : decode (xB 66) 21 = .ok (.if_icmp .ge 28, 3) := by decide +kernel
theorem d_66_24 : decode (xB 66) 24 = .ok (.aload_n 0, 1) := by decide +kernel
theorem d_66_25 : decode (xB 66) 25 = .ok (.getfield 9, 3) := by decide +kernel
theorem d_66_28 : decode (xB 66) 28 = .ok (.iload_n 3, 1) := by decide +kernel
theorem d_66_29 : decode (xB 66) 29 = .ok (.bipush 20, 2) := by decide +kernel
theorem d_66_31 : decode (xB 66) 31 = .ok (.imul, 1) := by decide +kernel
theorem d_66_32 : decode (xB 66) 32 = .ok (.iload 4, 2) := by decide +kernel
theorem d_66_34 : decode (xB 66) 34 = .ok (.iadd, 1) := by decide +kernel
theorem d_66_35 : decode (xB 66) 35 = .ok (.iaload, 1) := by decide +kernel
theorem d_66_36 : decode (xB 66) 36 = .ok (.iload_n 1, 1) := by decide +kernel
theorem d_66_37 : decode (xB 66) 37 = .ok (.if_icmp .ne 6, 3) := by decide +kernel
theorem d_66_40 : decode (xB 66) 40 = .ok (.iinc 2 1, 3) := by decide +kernel
theorem d_66_43 : decode (xB 66) 43 = .ok (.iinc 4 1, 3) := by decide +kernel
theorem d_66_46 : decode (xB 66) 46 = .ok (.goto (-31), 3) := by decide +kernel
theorem d_66_49 : decode (xB 66) 49 = .ok (.iinc 3 1, 3) := by decide +kernel
theorem d_66_52 : decode (xB 66) 52 = .ok (.goto (-48), 3) := by decide +kernel
theorem d_66_55 : decode (xB 66) 55 = .ok (.iload_n 2, 1) := by decide +kernel
theorem d_66_56 : decode (xB 66) 56 = .ok (.ireturn, 1) := by decide +kernel
theorem d_67_0 : decode (xB 67) 0 = .ok (.aload_n 0, 1) := by decide +kernel
theorem d_67_1 : decode (xB 67) 1 = .ok (.getfield 19, 3) := by decide +kernel
theorem d_67_4 : decode (xB 67) 4 = .ok (.getfield 58, 3) := by decide +kernel
theorem d_67_7 : decode (xB 67) 7 = .ok (.ireturn, 1) := by decide +kernel
theorem d_68_0 : decode (xB 68) 0 = .ok (.aload_n 0, 1) := by decide +kernel
theorem d_68_1 : decode (xB 68) 1 = .ok (.getfield 19, 3) := by decide +kernel
theorem d_68_4 : decode (xB 68) 4 = .ok (.getfield 61, 3) := by decide +kernel
theorem d_68_7 : decode (xB 68) 7 = .ok (.ireturn, 1) := by decide +kernel
theorem d_69_0 : decode (xB 69) 0 = .ok (.aload_n 0, 1) := by decide +kernel
theorem d_69_1 : decode (xB 69) 1 = .ok (.getfield 19, 3) := by decide +kernel
theorem d_69_4 : decode (xB 69) 4 = .ok (.getfield 64, 3) := by decide +kernel
theorem d_69_7 : decode (xB 69) 7 = .ok (.ireturn, 1) := by decide +kernel
theorem d_70_0 : decode (xB 70) 0 = .ok (.aload_n 0, 1) := by decide +kernel
theorem d_70_1 : decode (xB 70) 1 = .ok (.getfield 19, 3) := by decide +kernel
theorem d_70_4 : decode (xB 70) 4 = .ok (.invokevirtual 67, 3) := by decide +kernel
theorem d_70_7 : decode (xB 70) 7 = .ok (.invokevirtual 71, 3) := by decide +kernel
theorem d_70_10 : decode (xB 70) 10 = .ok (.ireturn, 1) := by decide +kernel
theorem d_71_0 : decode (xB 71) 0 = .ok (.iconst 0, 1) := by decide +kernel
theorem d_71_1 : decode (xB 71) 1 = .ok (.istore_n 1, 1) := by decide +kernel
theorem d_71_2 : decode (xB 71) 2 = .ok (.iconst 0, 1) := by decide +kernel
theorem d_71_3 : decode (xB 71) 3 = .ok (.istore_n 2, 1) := by decide +kernel
theorem d_71_4 : decode (xB 71) 4 = .ok (.iload_n 2, 1) := by decide +kernel
theorem d_71_5 : decode (xB 71) 5 = .ok (.bipush 20, 2) := by decide +kernel
theorem d_71_7 : decode (xB 71) 7 = .ok (.if_icmp .ge 21, 3) := by decide +kernel
theorem d_71_10 : decode (xB 71) 10 = .ok (.iload_n 1, 1) := by decide +kernel
theorem d_71_11 : decode (xB 71) 11 = .ok (.aload_n 0, 1) := by decide +kernel
theorem d_71_12 : decode (xB 71) 12 = .ok (.getfield 15, 3) := by decide +kernel
theorem d_71_15 : decode (xB 71) 15 = .ok (.iload_n 2, 1) := by decide +kernel
theorem d_71_16 : decode (xB 71) 16 = .ok (.iaload, 1) := by decide +kernel
theorem d_71_17 : decode (xB 71) 17 = .ok (.invokestatic 34, 3) := by decide +kernel
theorem d_71_20 : decode (xB 71) 20 = .ok (.iadd, 1) := by decide +kernel
theorem d_71_21 : decode (xB 71) 21 = .ok (.istore_n 1, 1) := by decide +kernel
theorem d_71_22 : decode (xB 71) 22 = .ok (.iinc 2 1, 3) := by decide +kernel
theorem d_71_25 : decode (xB 71) 25 = .ok (.goto (-21), 3) := by decide +kernel
theorem d_71_28 : decode (xB 71) 28 = .ok (.iload_n 1, 1) := by decide +kernel
theorem d_71_29 : decode (xB 71) 29 = .ok (.ireturn, 1) := by decide +kernel
theorem d_72_0 : decode (xB 72) 0 = .ok (.iload_n 0, 1) := by decide +kernel
theorem d_72_1 : decode (xB 72) 1 = .ok (.iload_n 0, 1) := by decide +kernel
theorem d_72_2 : decode (xB 72) 2 = .ok (.iconst 1, 1) := by decide +kernel
theorem d_72_3 : decode (xB 72) 3 = .ok (.iushr, 1) := by decide +kernel
theorem d_72_4 : decode (xB 72) 4 = .ok (.ldc_w 265, 3) := by decide +kernel
theorem d_72_7 : decode (xB 72) 7 = .ok (.iand, 1) := by decide +kernel
theorem d_72_8 : decode (xB 72) 8 = .ok (.isub, 1) := by decide +kernel
theorem d_72_9 : decode (xB 72) 9 = .ok (.istore_n 0, 1) := by decide +kernel
theorem d_72_10 : decode (xB 72) 10 = .ok (.iload_n 0, 1) := by decide +kernel
theorem d_72_11 : decode (xB 72) 11 = .ok (.ldc_w 266, 3) := by decide +kernel
theorem d_72_14 : decode (xB 72) 14 = .ok (.iand, 1) := by decide +kernel
theorem d_72_15 : decode (xB 72) 15 = .ok (.iload_n 0, 1) := by decide +kernel
theorem d_72_16 : decode (xB 72) 16 = .ok (.iconst 2, 1) := by decide +kernel
theorem d_72_17 : decode (xB 72) 17 = .ok (.iushr, 1) := by decide +kernel
theorem d_72_18 : decode (xB 72) 18 = .ok (.ldc_w 266, 3) := by decide +kernel
theorem d_72_21 : decode (xB 72) 21 = .ok (.iand, 1) := by decide +kernel
theorem d_72_22 : decode (xB 72) 22 = .ok (.iadd, 1) := by decide +kernel
theorem d_72_23 : decode (xB 72) 23 = .ok (.istore_n 0, 1) := by decide +kernel
theorem d_72_24 : decode (xB 72) 24 = .ok (.iload_n 0, 1) := by decide +kernel
theorem d_72_25 : decode (xB 72) 25 = .ok (.iload_n 0, 1) := by decide +kernel
theorem d_72_26 : decode (xB 72) 26 = .ok (.iconst 4, 1) := by decide +kernel
theorem d_72_27 : decode (xB 72) 27 = .ok (.iushr, 1) := by decide +kernel
theorem d_72_28 : decode (xB 72) 28 = .ok (.iadd, 1) := by decide +kernel
theorem d_72_29 : decode (xB 72) 29 = .ok (.ldc_w 267, 3) := by decide +kernel
theorem d_72_32 : decode (xB 72) 32 = .ok (.iand, 1) := by decide +kernel
theorem d_72_33 : decode (xB 72) 33 = .ok (.istore_n 0, 1) := by decide +kernel
theorem d_72_34 : decode (xB 72) 34 = .ok (.iload_n 0, 1) := by decide +kernel
theorem d_72_35 : decode (xB 72) 35 = .ok (.iload_n 0, 1) := by decide +kernel
theorem d_72_36 : decode (xB 72) 36 = .ok (.bipush 8, 2) := by decide +kernel
theorem d_72_38 : decode (xB 72) 38 = .ok (.iushr, 1) := by decide +kernel
