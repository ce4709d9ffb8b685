theorem dX10_init_0 : decode cX10_init 0 = .ok (.aload_n 0, 1) := by decide +kernel
theorem dX10_init_1 : decode cX10_init 1 = .ok (.invokespecial 1, 3) := by decide +kernel
theorem dX10_init_4 : decode cX10_init 4 = .ok (.aload_n 0, 1) := by decide +kernel
theorem dX10_init_5 : decode cX10_init 5 = .ok (.sipush 305, 3) := by decide +kernel
theorem dX10_init_8 : decode cX10_init 8 = .ok (.newarray .int, 2) := by decide +kernel
theorem dX10_init_10 : decode cX10_init 10 = .ok (.putfield 7, 3) := by decide +kernel
theorem dX10_init_13 : decode cX10_init 13 = .ok (.aload_n 0, 1) := by decide +kernel
theorem dX10_init_14 : decode cX10_init 14 = .ok (.sipush 160, 3) := by decide +kernel
theorem dX10_init_17 : decode cX10_init 17 = .ok (.newarray .int, 2) := by decide +kernel
theorem dX10_init_19 : decode cX10_init 19 = .ok (.putfield 13, 3) := by decide +kernel
theorem dX10_init_22 : decode cX10_init 22 = .ok (.aload_n 0, 1) := by decide +kernel
theorem dX10_init_23 : decode cX10_init 23 = .ok (.iconst 3, 1) := by decide +kernel
theorem dX10_init_24 : decode cX10_init 24 = .ok (.newarray .int, 2) := by decide +kernel
theorem dX10_init_26 : decode cX10_init 26 = .ok (.dup, 1) := by decide +kernel
theorem dX10_init_27 : decode cX10_init 27 = .ok (.iconst 0, 1) := by decide +kernel
theorem dX10_init_28 : decode cX10_init 28 = .ok (.bipush (-4), 2) := by decide +kernel
theorem dX10_init_30 : decode cX10_init 30 = .ok (.iastore, 1) := by decide +kernel
theorem dX10_init_31 : decode cX10_init 31 = .ok (.dup, 1) := by decide +kernel
theorem dX10_init_32 : decode cX10_init 32 = .ok (.iconst 1, 1) := by decide +kernel
theorem dX10_init_33 : decode cX10_init 33 = .ok (.bipush (-4), 2) := by decide +kernel
theorem dX10_init_35 : decode cX10_init 35 = .ok (.iastore, 1) := by decide +kernel
theorem dX10_init_36 : decode cX10_init 36 = .ok (.dup, 1) := by decide +kernel
theorem dX10_init_37 : decode cX10_init 37 = .ok (.iconst 2, 1) := by decide +kernel
theorem dX10_init_38 : decode cX10_init 38 = .ok (.bipush (-4), 2) := by decide +kernel
theorem dX10_init_40 : decode cX10_init 40 = .ok (.iastore, 1) := by decide +kernel
theorem dX10_init_41 : decode cX10_init 41 = .ok (.putfield 16, 3) := by decide +kernel
theorem dX10_init_44 : decode cX10_init 44 = .ok (.aload_n 0, 1) := by decide +kernel
theorem dX10_init_45 : decode cX10_init 45 = .ok (.iconst 4, 1) := by decide +kernel
theorem dX10_init_46 : decode cX10_init 46 = .ok (.newarray .int, 2) := by decide +kernel
theorem dX10_init_48 : decode cX10_init 48 = .ok (.dup, 1) := by decide +kernel
theorem dX10_init_49 : decode cX10_init 49 = .ok (.iconst 0, 1) := by decide +kernel
theorem dX10_init_50 : decode cX10_init 50 = .ok (.iconst 0, 1) := by decide +kernel
theorem dX10_init_51 : decode cX10_init 51 = .ok (.iastore, 1) := by decide +kernel
theorem dX10_init_52 : decode cX10_init 52 = .ok (.dup, 1) := by decide +kernel
theorem dX10_init_53 : decode cX10_init 53 = .ok (.iconst 1, 1) := by decide +kernel
theorem dX10_init_54 : decode cX10_init 54 = .ok (.iconst 3, 1) := by decide +kernel
theorem dX10_init_55 : decode cX10_init 55 = .ok (.iastore, 1) := by decide +kernel
theorem dX10_init_56 : decode cX10_init 56 = .ok (.dup, 1) := by decide +kernel
theorem dX10_init_57 : decode cX10_init 57 = .ok (.iconst 2, 1) := by decide +kernel
theorem dX10_init_58 : decode cX10_init 58 = .ok (.bipush 6, 2) := by decide +kernel
theorem dX10_init_60 : decode cX10_init 60 = .ok (.iastore, 1) := by decide +kernel
theorem dX10_init_61 : decode cX10_init 61 = .ok (.dup, 1) := by decide +kernel
theorem dX10_init_62 : decode cX10_init 62 = .ok (.iconst 3, 1) := by decide +kernel
theorem dX10_init_63 : decode cX10_init 63 = .ok (.bipush 10, 2) := by decide +kernel
theorem dX10_init_65 : decode cX10_init 65 = .ok (.iastore, 1) := by decide +kernel
theorem dX10_init_66 : decode cX10_init 66 = .ok (.putfield 19, 3) := by decide +kernel
theorem dX10_init_69 : decode cX10_init 69 = .ok (.aload_n 0, 1) := by decide +kernel
theorem dX10_init_70 : decode cX10_init 70 = .ok (.bipush 10, 2) := by decide +kernel
theorem dX10_init_72 : decode cX10_init 72 = .ok (.newarray .int, 2) := by decide +kernel
theorem dX10_init_74 : decode cX10_init 74 = .ok (.dup, 1) := by decide +kernel
theorem dX10_init_75 : decode cX10_init 75 = .ok (.iconst 0, 1) := by decide +kernel
theorem dX10_init_76 : decode cX10_init 76 = .ok (.bipush 114, 2) := by decide +kernel
theorem dX10_init_78 : decode cX10_init 78 = .ok (.iastore, 1) := by decide +kernel
theorem dX10_init_79 : decode cX10_init 79 = .ok (.dup, 1) := by decide +kernel
theorem dX10_init_80 : decode cX10_init 80 = .ok (.iconst 1, 1) := by decide +kernel
theorem dX10_init_81 : decode cX10_init 81 = .ok (.bipush 111, 2) := by decide +kernel
theorem dX10_init_83 : decode cX10_init 83 = .ok (.iastore, 1) := by decide +kernel
theorem dX10_init_84 : decode cX10_init 84 = .ok (.dup, 1) := by decide +kernel
theorem dX10_init_85 : decode cX10_init 85 = .ok (.iconst 2, 1) := by decide +kernel
theorem dX10_init_86 : decode cX10_init 86 = .ok (.bipush 119, 2) := by decide +kernel
theorem dX10_init_88 : decode cX10_init 88 = .ok (.iastore, 1) := by decide +kernel
theorem dX10_init_89 : decode cX10_init 89 = .ok (.dup, 1) := by decide +kernel
theorem dX10_init_90 : decode cX10_init 90 = .ok (.iconst 3, 1) := by decide +kernel
theorem dX10_init_91 : decode cX10_init 91 = .ok (.bipush 114, 2) := by decide +kernel
theorem dX10_init_93 : decode cX10_init 93 = .ok (.iastore, 1) := by decide +kernel
theorem dX10_init_94 : decode cX10_init 94 = .ok (.dup, 1) := by decide +kernel
theorem dX10_init_95 : decode cX10_init 95 = .ok (.iconst 4, 1) := by decide +kernel
theorem dX10_init_96 : decode cX10_init 96 = .ok (.bipush 101, 2) := by decide +kernel
theorem dX10_init_98 : decode cX10_init 98 = .ok (.iastore, 1) := by decide +kernel
theorem dX10_init_99 : decode cX10_init 99 = .ok (.dup, 1) := by decide +kernel
theorem dX10_init_100 : decode cX10_init 100 = .ok (.iconst 5, 1) := by decide +kernel
theorem dX10_init_101 : decode cX10_init 101 = .ok (.bipush 112, 2) := by decide +kernel
theorem dX10_init_103 : decode cX10_init 103 = .ok (.iastore, 1) := by decide +kernel
theorem dX10_init_104 : decode cX10_init 104 = .ok (.dup, 1) := by decide +kernel
theorem dX10_init_105 : decode cX10_init 105 = .ok (.bipush 6, 2) := by decide +kernel
theorem dX10_init_107 : decode cX10_init 107 = .ok (.bipush 109, 2) := by decide +kernel
theorem dX10_init_109 : decode cX10_init 109 = .ok (.iastore, 1) := by decide +kernel
theorem dX10_init_110 : decode cX10_init 110 = .ok (.dup, 1) := by decide +kernel
theorem dX10_init_111 : decode cX10_init 111 = .ok (.bipush 7, 2) := by decide +kernel
theorem dX10_init_113 : decode cX10_init 113 = .ok (.bipush 97, 2) := by decide +kernel
theorem dX10_init_115 : decode cX10_init 115 = .ok (.iastore, 1) := by decide +kernel
theorem dX10_init_116 : decode cX10_init 116 = .ok (.dup, 1) := by decide +kernel
theorem dX10_init_117 : decode cX10_init 117 = .ok (.bipush 8, 2) := by decide +kernel
theorem dX10_init_119 : decode cX10_init 119 = .ok (.bipush 114, 2) := by decide +kernel
theorem dX10_init_121 : decode cX10_init 121 = .ok (.iastore, 1) := by decide +kernel
theorem dX10_init_122 : decode cX10_init 122 = .ok (.dup, 1) := by decide +kernel
theorem dX10_init_123 : decode cX10_init 123 = .ok (.bipush 9, 2) := by decide +kernel
theorem dX10_init_125 : decode cX10_init 125 = .ok (.bipush 107, 2) := by decide +kernel
theorem dX10_init_127 : decode cX10_init 127 = .ok (.iastore, 1) := by decide +kernel
theorem dX10_init_128 : decode cX10_init 128 = .ok (.putfield 22, 3) := by decide +kernel
theorem dX10_init_131 : decode cX10_init 131 = .ok (.aload_n 0, 1) := by decide +kernel
theorem dX10_init_132 : decode cX10_init 132 = .ok (.bipush 60, 2) := by decide +kernel
theorem dX10_init_134 : decode cX10_init 134 = .ok (.newarray .int, 2) := by decide +kernel
theorem dX10_init_136 : decode cX10_init 136 = .ok (.putfield 25, 3) := by decide +kernel
theorem dX10_init_139 : decode cX10_init 139 = .ok (.aload_n 0, 1) := by decide +kernel
theorem dX10_init_140 : decode cX10_init 140 = .ok (.bipush 60, 2) := by decide +kernel
theorem dX10_init_142 : decode cX10_init 142 = .ok (.newarray .int, 2) := by decide +kernel
theorem dX10_init_144 : decode cX10_init 144 = .ok (.putfield 28, 3) := by decide +kernel
theorem dX10_init_147 : decode cX10_init 147 = .ok (.aload_n 0, 1) := by decide +kernel
theorem dX10_init_148 : decode cX10_init 148 = .ok (.bipush 60, 2) := by decide +kernel
theorem dX10_init_150 : decode cX10_init 150 = .ok (.newarray .int, 2) := by decide +kernel
theorem dX10_init_152 : decode cX10_init 152 = .ok (.putfield 31, 3) := by decide +kernel
theorem dX10_init_155 : decode cX10_init 155 = .ok (.aload_n 0, 1) := by decide +kernel
theorem dX10_init_156 : decode cX10_init 156 = .ok (.bipush 60, 2) := by decide +kernel
theorem dX10_init_158 : decode cX10_init 158 = .ok (.newarray .int, 2) := by decide +kernel
theorem dX10_init_160 : decode cX10_init 160 = .ok (.putfield 34, 3) := by decide +kernel
theorem dX10_init_163 : decode cX10_init 163 = .ok (.aload_n 0, 1) := by decide +kernel
theorem dX10_init_164 : decode cX10_init 164 = .ok (.sipush 1220, 3) := by decide +kernel
theorem dX10_init_167 : decode cX10_init 167 = .ok (.newarray .int, 2) := by decide +kernel
theorem dX10_init_169 : decode cX10_init 169 = .ok (.putfield 37, 3) := by decide +kernel
theorem dX10_init_172 : decode cX10_init 172 = .ok (.aload_n 0, 1) := by decide +kernel
theorem dX10_init_173 : decode cX10_init 173 = .ok (.sipush 1220, 3) := by decide +kernel
theorem dX10_init_176 : decode cX10_init 176 = .ok (.newarray .int, 2) := by decide +kernel
theorem dX10_init_178 : decode cX10_init 178 = .ok (.putfield 40, 3) := by decide +kernel
theorem dX10_init_181 : decode cX10_init 181 = .ok (.aload_n 0, 1) := by decide +kernel
theorem dX10_init_182 : decode cX10_init 182 = .ok (.bipush 120, 2) := by decide +kernel
theorem dX10_init_184 : decode cX10_init 184 = .ok (.newarray .int, 2) := by decide +kernel
theorem dX10_init_186 : decode cX10_init 186 = .ok (.putfield 43, 3) := by decide +kernel
theorem dX10_init_189 : decode cX10_init 189 = .ok (.aload_n 0, 1) := by decide +kernel
theorem dX10_init_190 : decode cX10_init 190 = .ok (.iconst 2, 1) := by decide +kernel
theorem dX10_init_191 : decode cX10_init 191 = .ok (.newarray .boolean, 2) := by decide +kernel
theorem dX10_init_193 : decode cX10_init 193 = .ok (.dup, 1) := by decide +kernel
theorem dX10_init_194 : decode cX10_init 194 = .ok (.iconst 0, 1) := by decide +kernel
theorem dX10_init_195 : decode cX10_init 195 = .ok (.iconst 0, 1) := by decide +kernel
theorem dX10_init_196 : decode cX10_init 196 = .ok (.bastore, 1) := by decide +kernel
theorem dX10_init_197 : decode cX10_init 197 = .ok (.dup, 1) := by decide +kernel
theorem dX10_init_198 : decode cX10_init 198 = .ok (.iconst 1, 1) := by decide +kernel
theorem dX10_init_199 : decode cX10_init 199 = .ok (.iconst 0, 1) := by decide +kernel
theorem dX10_init_200 : decode cX10_init 200 = .ok (.bastore, 1) := by decide +kernel
theorem dX10_init_201 : decode cX10_init 201 = .ok (.putfield 46, 3) := by decide +kernel
theorem dX10_init_204 : decode cX10_init 204 = .ok (.aload_n 0, 1) := by decide +kernel
theorem dX10_init_205 : decode cX10_init 205 = .ok (.iconst 4, 1) := by decide +kernel
theorem dX10_init_206 : decode cX10_init 206 = .ok (.newarray .int, 2) := by decide +kernel
theorem dX10_init_208 : decode cX10_init 208 = .ok (.dup, 1) := by decide +kernel
theorem dX10_init_209 : decode cX10_init 209 = .ok (.iconst 0, 1) := by decide +kernel
theorem dX10_init_210 : decode cX10_init 210 = .ok (.bipush (-4), 2) := by decide +kernel
theorem dX10_init_212 : decode cX10_init 212 = .ok (.iastore, 1) := by decide +kernel
theorem dX10_init_213 : decode cX10_init 213 = .ok (.dup, 1) := by decide +kernel
theorem dX10_init_214 : decode cX10_init 214 = .ok (.iconst 1, 1) := by decide +kernel
theorem dX10_init_215 : decode cX10_init 215 = .ok (.bipush (-4), 2) := by decide +kernel
theorem dX10_init_217 : decode cX10_init 217 = .ok (.iastore, 1) := by decide +kernel
theorem dX10_init_218 : decode cX10_init 218 = .ok (.dup, 1) := by decide +kernel
theorem dX10_init_219 : decode cX10_init 219 = .ok (.iconst 2, 1) := by decide +kernel
theorem dX10_init_220 : decode cX10_init 220 = .ok (.bipush (-4), 2) := by decide +kernel
theorem dX10_init_222 : decode cX10_init 222 = .ok (.iastore, 1) := by decide +kernel
theorem dX10_init_223 : decode cX10_init 223 = .ok (.dup, 1) := by decide +kernel
theorem dX10_init_224 : decode cX10_init 224 = .ok (.iconst 3, 1) := by decide +kernel
theorem dX10_init_225 : decode cX10_init 225 = .ok (.bipush (-4), 2) := by decide +kernel
theorem dX10_init_227 : decode cX10_init 227 = .ok (.iastore, 1) := by decide +kernel
theorem dX10_init_228 : decode cX10_init 228 = .ok (.putfield 50, 3) := by decide +kernel
theorem dX10_init_231 : decode cX10_init 231 = .ok (.aload_n 0, 1) := by decide +kernel
theorem dX10_init_232 : decode cX10_init 232 = .ok (.iconst 4, 1) := by decide +kernel
theorem dX10_init_233 : decode cX10_init 233 = .ok (.newarray .int, 2) := by decide +kernel
theorem dX10_init_235 : decode cX10_init 235 = .ok (.dup, 1) := by decide +kernel
theorem dX10_init_236 : decode cX10_init 236 = .ok (.iconst 0, 1) := by decide +kernel
theorem dX10_init_237 : decode cX10_init 237 = .ok (.iconst 0, 1) := by decide +kernel
theorem dX10_init_238 : decode cX10_init 238 = .ok (.iastore, 1) := by decide +kernel
theorem dX10_init_239 : decode cX10_init 239 = .ok (.dup, 1) := by decide +kernel
theorem dX10_init_240 : decode cX10_init 240 = .ok (.iconst 1, 1) := by decide +kernel
theorem dX10_init_241 : decode cX10_init 241 = .ok (.iconst 0, 1) := by decide +kernel
theorem dX10_init_242 : decode cX10_init 242 = .ok (.iastore, 1) := by decide +kernel
theorem dX10_init_243 : decode cX10_init 243 = .ok (.dup, 1) := by decide +kernel
theorem dX10_init_244 : decode cX10_init 244 = .ok (.iconst 2, 1) := by decide +kernel
theorem dX10_init_245 : decode cX10_init 245 = .ok (.iconst 0, 1) := by decide +kernel
theorem dX10_init_246 : decode cX10_init 246 = .ok (.iastore, 1) := by decide +kernel
theorem dX10_init_247 : decode cX10_init 247 = .ok (.dup, 1) := by decide +kernel
theorem dX10_init_248 : decode cX10_init 248 = .ok (.iconst 3, 1) := by decide +kernel
theorem dX10_init_249 : decode cX10_init 249 = .ok (.iconst 0, 1) := by decide +kernel
theorem dX10_init_250 : decode cX10_init 250 = .ok (.iastore, 1) := by decide +kernel
theorem dX10_init_251 : decode cX10_init 251 = .ok (.putfield 53, 3) := by decide +kernel
theorem dX10_init_254 : decode cX10_init 254 = .ok (.aload_n 0, 1) := by decide +kernel
theorem dX10_init_255 : decode cX10_init 255 = .ok (.sipush 160, 3) := by decide +kernel
theorem dX10_init_258 : decode cX10_init 258 = .ok (.newarray .int, 2) := by decide +kernel
theorem dX10_init_260 : decode cX10_init 260 = .ok (.putfield 56, 3) := by decide +kernel
theorem dX10_init_263 : decode cX10_init 263 = .ok (.return_, 1) := by decide +kernel
theorem dX10_in_0 : decode cX10_in 0 = .ok (.lload_n 0, 1) := by decide +kernel
theorem dX10_in_1 : decode cX10_in 1 = .ok (.lload_n 2, 1) := by decide +kernel
theorem dX10_in_2 : decode cX10_in 2 = .ok (.lcmp, 1) := by decide +kernel
theorem dX10_in_3 : decode cX10_in 3 = .ok (.ifCond .lt 14, 3) := by decide +kernel
theorem dX10_in_6 : decode cX10_in 6 = .ok (.lload_n 0, 1) := by decide +kernel
theorem dX10_in_7 : decode cX10_in 7 = .ok (.lload 4, 2) := by decide +kernel
theorem dX10_in_9 : decode cX10_in 9 = .ok (.lcmp, 1) := by decide +kernel
theorem dX10_in_10 : decode cX10_in 10 = .ok (.ifCond .gt 7, 3) := by decide +kernel
theorem dX10_in_13 : decode cX10_in 13 = .ok (.iconst 1, 1) := by decide +kernel
theorem dX10_in_14 : decode cX10_in 14 = .ok (.goto 4, 3) := by decide +kernel
theorem dX10_in_17 : decode cX10_in 17 = .ok (.iconst 0, 1) := by decide +kernel
theorem dX10_in_18 : decode cX10_in 18 = .ok (.ireturn, 1) := by decide +kernel
theorem dX10_feed_0 : decode cX10_feed 0 = .ok (.iload_n 1, 1) := by decide +kernel
theorem dX10_feed_1 : decode cX10_feed 1 = .ok (.i2l, 1) := by decide +kernel
theorem dX10_feed_2 : decode cX10_feed 2 = .ok (.lconst 0, 1) := by decide +kernel
theorem dX10_feed_3 : decode cX10_feed 3 = .ok (.ldc2_w 59, 3) := by decide +kernel
theorem dX10_feed_6 : decode cX10_feed 6 = .ok (.invokestatic 61, 3) := by decide +kernel
theorem dX10_feed_9 : decode cX10_feed 9 = .ok (.ifCond .ne 5, 3) := by decide +kernel
theorem dX10_feed_12 : decode cX10_feed 12 = .ok (.iconst (-1), 1) := by decide +kernel
theorem dX10_feed_13 : decode cX10_feed 13 = .ok (.ireturn, 1) := by decide +kernel
theorem dX10_feed_14 : decode cX10_feed 14 = .ok (.aload_n 0, 1) := by decide +kernel
theorem dX10_feed_15 : decode cX10_feed 15 = .ok (.getfield 65, 3) := by decide +kernel
theorem dX10_feed_18 : decode cX10_feed 18 = .ok (.sipush 160, 3) := by decide +kernel
theorem dX10_feed_21 : decode cX10_feed 21 = .ok (.if_icmp .ne 6, 3) := by decide +kernel
theorem dX10_feed_24 : decode cX10_feed 24 = .ok (.bipush (-3), 2) := by decide +kernel
theorem dX10_feed_26 : decode cX10_feed 26 = .ok (.ireturn, 1) := by decide +kernel
theorem dX10_feed_27 : decode cX10_feed 27 = .ok (.aload_n 0, 1) := by decide +kernel
theorem dX10_feed_28 : decode cX10_feed 28 = .ok (.getfield 13, 3) := by decide +kernel
theorem dX10_feed_31 : decode cX10_feed 31 = .ok (.aload_n 0, 1) := by decide +kernel
theorem dX10_feed_32 : decode cX10_feed 32 = .ok (.getfield 65, 3) := by decide +kernel
theorem dX10_feed_35 : decode cX10_feed 35 = .ok (.iload_n 1, 1) := by decide +kernel
theorem dX10_feed_36 : decode cX10_feed 36 = .ok (.iastore, 1) := by decide +kernel
theorem dX10_feed_37 : decode cX10_feed 37 = .ok (.aload_n 0, 1) := by decide +kernel
theorem dX10_feed_38 : decode cX10_feed 38 = .ok (.dup, 1) := by decide +kernel
theorem dX10_feed_39 : decode cX10_feed 39 = .ok (.getfield 65, 3) := by decide +kernel
theorem dX10_feed_42 : decode cX10_feed 42 = .ok (.iconst 1, 1) := by decide +kernel
theorem dX10_feed_43 : decode cX10_feed 43 = .ok (.iadd, 1) := by decide +kernel
theorem dX10_feed_44 : decode cX10_feed 44 = .ok (.putfield 65, 3) := by decide +kernel
theorem dX10_feed_47 : decode cX10_feed 47 = .ok (.aload_n 0, 1) := by decide +kernel
theorem dX10_feed_48 : decode cX10_feed 48 = .ok (.getfield 65, 3) := by decide +kernel
theorem dX10_feed_51 : decode cX10_feed 51 = .ok (.ireturn, 1) := by decide +kernel
theorem dX10_end_0 : decode cX10_end 0 = .ok (.iload_n 1, 1) := by decide +kernel
theorem dX10_end_1 : decode cX10_end 1 = .ok (.i2l, 1) := by decide +kernel
theorem dX10_end_2 : decode cX10_end 2 = .ok (.lconst 0, 1) := by decide +kernel
theorem dX10_end_3 : decode cX10_end 3 = .ok (.aload_n 0, 1) := by decide +kernel
theorem dX10_end_4 : decode cX10_end 4 = .ok (.getfield 65, 3) := by decide +kernel
theorem dX10_end_7 : decode cX10_end 7 = .ok (.i2l, 1) := by decide +kernel
theorem dX10_end_8 : decode cX10_end 8 = .ok (.invokestatic 61, 3) := by decide +kernel
theorem dX10_end_11 : decode cX10_end 11 = .ok (.ifCond .ne 5, 3) := by decide +kernel
theorem dX10_end_14 : decode cX10_end 14 = .ok (.iconst (-1), 1) := by decide +kernel
theorem dX10_end_15 : decode cX10_end 15 = .ok (.ireturn, 1) := by decide +kernel
theorem dX10_end_16 : decode cX10_end 16 = .ok (.aload_n 0, 1) := by decide +kernel
theorem dX10_end_17 : decode cX10_end 17 = .ok (.getfield 65, 3) := by decide +kernel
theorem dX10_end_20 : decode cX10_end 20 = .ok (.istore_n 2, 1) := by decide +kernel
theorem dX10_end_21 : decode cX10_end 21 = .ok (.aload_n 0, 1) := by decide +kernel
theorem dX10_end_22 : decode cX10_end 22 = .ok (.iload_n 1, 1) := by decide +kernel
theorem dX10_end_23 : decode cX10_end 23 = .ok (.putfield 65, 3) := by decide +kernel
theorem dX10_end_26 : decode cX10_end 26 = .ok (.iload_n 2, 1) := by decide +kernel
theorem dX10_end_27 : decode cX10_end 27 = .ok (.ireturn, 1) := by decide +kernel
theorem dX10_byteAt_0 : decode cX10_byteAt 0 = .ok (.iload_n 1, 1) := by decide +kernel
theorem dX10_byteAt_1 : decode cX10_byteAt 1 = .ok (.aload_n 0, 1) := by decide +kernel
theorem dX10_byteAt_2 : decode cX10_byteAt 2 = .ok (.getfield 65, 3) := by decide +kernel
theorem dX10_byteAt_5 : decode cX10_byteAt 5 = .ok (.if_icmp .ge 12, 3) := by decide +kernel
theorem dX10_byteAt_8 : decode cX10_byteAt 8 = .ok (.aload_n 0, 1) := by decide +kernel
theorem dX10_byteAt_9 : decode cX10_byteAt 9 = .ok (.getfield 13, 3) := by decide +kernel
theorem dX10_byteAt_12 : decode cX10_byteAt 12 = .ok (.iload_n 1, 1) := by decide +kernel
theorem dX10_byteAt_13 : decode cX10_byteAt 13 = .ok (.iaload, 1) := by decide +kernel
theorem dX10_byteAt_14 : decode cX10_byteAt 14 = .ok (.goto 5, 3) := by decide +kernel
theorem dX10_byteAt_17 : decode cX10_byteAt 17 = .ok (.bipush (-4), 2) := by decide +kernel
theorem dX10_byteAt_19 : decode cX10_byteAt 19 = .ok (.ireturn, 1) := by decide +kernel
theorem dX10_fails_0 : decode cX10_fails 0 = .ok (.aload_n 0, 1) := by decide +kernel
theorem dX10_fails_1 : decode cX10_fails 1 = .ok (.getfield 69, 3) := by decide +kernel
theorem dX10_fails_4 : decode cX10_fails 4 = .ok (.ifCond .ne 16, 3) := by decide +kernel
theorem dX10_fails_7 : decode cX10_fails 7 = .ok (.aload_n 0, 1) := by decide +kernel
theorem dX10_fails_8 : decode cX10_fails 8 = .ok (.iload_n 1, 1) := by decide +kernel
theorem dX10_fails_9 : decode cX10_fails 9 = .ok (.putfield 69, 3) := by decide +kernel
theorem dX10_fails_12 : decode cX10_fails 12 = .ok (.aload_n 0, 1) := by decide +kernel
theorem dX10_fails_13 : decode cX10_fails 13 = .ok (.aload_n 0, 1) := by decide +kernel
theorem dX10_fails_14 : decode cX10_fails 14 = .ok (.getfield 72, 3) := by decide +kernel
theorem dX10_fails_17 : decode cX10_fails 17 = .ok (.putfield 75, 3) := by decide +kernel
theorem dX10_fails_20 : decode cX10_fails 20 = .ok (.return_, 1) := by decide +kernel
theorem dX10_kindOf_0 : decode cX10_kindOf 0 = .ok (.iload_n 0, 1) := by decide +kernel
theorem dX10_kindOf_1 : decode cX10_kindOf 1 = .ok (.bipush 40, 2) := by decide +kernel
theorem dX10_kindOf_3 : decode cX10_kindOf 3 = .ok (.if_icmp .eq 9, 3) := by decide +kernel
theorem dX10_kindOf_6 : decode cX10_kindOf 6 = .ok (.iload_n 0, 1) := by decide +kernel
theorem dX10_kindOf_7 : decode cX10_kindOf 7 = .ok (.bipush 41, 2) := by decide +kernel
theorem dX10_kindOf_9 : decode cX10_kindOf 9 = .ok (.if_icmp .ne 7, 3) := by decide +kernel
theorem dX10_kindOf_12 : decode cX10_kindOf 12 = .ok (.iconst 0, 1) := by decide +kernel
theorem dX10_kindOf_13 : decode cX10_kindOf 13 = .ok (.goto 37, 3) := by decide +kernel
theorem dX10_kindOf_16 : decode cX10_kindOf 16 = .ok (.iload_n 0, 1) := by decide +kernel
theorem dX10_kindOf_17 : decode cX10_kindOf 17 = .ok (.bipush 91, 2) := by decide +kernel
theorem dX10_kindOf_19 : decode cX10_kindOf 19 = .ok (.if_icmp .eq 9, 3) := by decide +kernel
theorem dX10_kindOf_22 : decode cX10_kindOf 22 = .ok (.iload_n 0, 1) := by decide +kernel
theorem dX10_kindOf_23 : decode cX10_kindOf 23 = .ok (.bipush 93, 2) := by decide +kernel
theorem dX10_kindOf_25 : decode cX10_kindOf 25 = .ok (.if_icmp .ne 7, 3) := by decide +kernel
theorem dX10_kindOf_28 : decode cX10_kindOf 28 = .ok (.iconst 1, 1) := by decide +kernel
theorem dX10_kindOf_29 : decode cX10_kindOf 29 = .ok (.goto 21, 3) := by decide +kernel
theorem dX10_kindOf_32 : decode cX10_kindOf 32 = .ok (.iload_n 0, 1) := by decide +kernel
theorem dX10_kindOf_33 : decode cX10_kindOf 33 = .ok (.bipush 123, 2) := by decide +kernel
theorem dX10_kindOf_35 : decode cX10_kindOf 35 = .ok (.if_icmp .eq 9, 3) := by decide +kernel
theorem dX10_kindOf_38 : decode cX10_kindOf 38 = .ok (.iload_n 0, 1) := by decide +kernel
theorem dX10_kindOf_39 : decode cX10_kindOf 39 = .ok (.bipush 125, 2) := by decide +kernel
theorem dX10_kindOf_41 : decode cX10_kindOf 41 = .ok (.if_icmp .ne 7, 3) := by decide +kernel
theorem dX10_kindOf_44 : decode cX10_kindOf 44 = .ok (.iconst 2, 1) := by decide +kernel
theorem dX10_kindOf_45 : decode cX10_kindOf 45 = .ok (.goto 5, 3) := by decide +kernel
theorem dX10_kindOf_48 : decode cX10_kindOf 48 = .ok (.bipush (-4), 2) := by decide +kernel
theorem dX10_kindOf_50 : decode cX10_kindOf 50 = .ok (.ireturn, 1) := by decide +kernel
theorem dX10_isOpen_0 : decode cX10_isOpen 0 = .ok (.iload_n 0, 1) := by decide +kernel
theorem dX10_isOpen_1 : decode cX10_isOpen 1 = .ok (.bipush 40, 2) := by decide +kernel
theorem dX10_isOpen_3 : decode cX10_isOpen 3 = .ok (.if_icmp .eq 15, 3) := by decide +kernel
theorem dX10_isOpen_6 : decode cX10_isOpen 6 = .ok (.iload_n 0, 1) := by decide +kernel
theorem dX10_isOpen_7 : decode cX10_isOpen 7 = .ok (.bipush 91, 2) := by decide +kernel
theorem dX10_isOpen_9 : decode cX10_isOpen 9 = .ok (.if_icmp .eq 9, 3) := by decide +kernel
theorem dX10_isOpen_12 : decode cX10_isOpen 12 = .ok (.iload_n 0, 1) := by decide +kernel
theorem dX10_isOpen_13 : decode cX10_isOpen 13 = .ok (.bipush 123, 2) := by decide +kernel
theorem dX10_isOpen_15 : decode cX10_isOpen 15 = .ok (.if_icmp .ne 7, 3) := by decide +kernel
theorem dX10_isOpen_18 : decode cX10_isOpen 18 = .ok (.iconst 1, 1) := by decide +kernel
theorem dX10_isOpen_19 : decode cX10_isOpen 19 = .ok (.goto 4, 3) := by decide +kernel
theorem dX10_isOpen_22 : decode cX10_isOpen 22 = .ok (.iconst 0, 1) := by decide +kernel
theorem dX10_isOpen_23 : decode cX10_isOpen 23 = .ok (.ireturn, 1) := by decide +kernel
theorem dX10_isClose_0 : decode cX10_isClose 0 = .ok (.iload_n 0, 1) := by decide +kernel
theorem dX10_isClose_1 : decode cX10_isClose 1 = .ok (.bipush 41, 2) := by decide +kernel
theorem dX10_isClose_3 : decode cX10_isClose 3 = .ok (.if_icmp .eq 15, 3) := by decide +kernel
theorem dX10_isClose_6 : decode cX10_isClose 6 = .ok (.iload_n 0, 1) := by decide +kernel
theorem dX10_isClose_7 : decode cX10_isClose 7 = .ok (.bipush 93, 2) := by decide +kernel
theorem dX10_isClose_9 : decode cX10_isClose 9 = .ok (.if_icmp .eq 9, 3) := by decide +kernel
theorem dX10_isClose_12 : decode cX10_isClose 12 = .ok (.iload_n 0, 1) := by decide +kernel
theorem dX10_isClose_13 : decode cX10_isClose 13 = .ok (.bipush 125, 2) := by decide +kernel
theorem dX10_isClose_15 : decode cX10_isClose 15 = .ok (.if_icmp .ne 7, 3) := by decide +kernel
theorem dX10_isClose_18 : decode cX10_isClose 18 = .ok (.iconst 1, 1) := by decide +kernel
theorem dX10_isClose_19 : decode cX10_isClose 19 = .ok (.goto 4, 3) := by decide +kernel
theorem dX10_isClose_22 : decode cX10_isClose 22 = .ok (.iconst 0, 1) := by decide +kernel
theorem dX10_isClose_23 : decode cX10_isClose 23 = .ok (.ireturn, 1) := by decide +kernel
theorem dX10_isSign_0 : decode cX10_isSign 0 = .ok (.iload_n 0, 1) := by decide +kernel
theorem dX10_isSign_1 : decode cX10_isSign 1 = .ok (.invokestatic 78, 3) := by decide +kernel
theorem dX10_isSign_4 : decode cX10_isSign 4 = .ok (.bipush (-4), 2) := by decide +kernel
theorem dX10_isSign_6 : decode cX10_isSign 6 = .ok (.if_icmp .ne 23, 3) := by decide +kernel
theorem dX10_isSign_9 : decode cX10_isSign 9 = .ok (.iload_n 0, 1) := by decide +kernel
theorem dX10_isSign_10 : decode cX10_isSign 10 = .ok (.i2l, 1) := by decide +kernel
theorem dX10_isSign_11 : decode cX10_isSign 11 = .ok (.ldc2_w 82, 3) := by decide +kernel
theorem dX10_isSign_14 : decode cX10_isSign 14 = .ok (.ldc2_w 84, 3) := by decide +kernel
theorem dX10_isSign_17 : decode cX10_isSign 17 = .ok (.invokestatic 61, 3) := by decide +kernel
theorem dX10_isSign_20 : decode cX10_isSign 20 = .ok (.ifCond .ne 9, 3) := by decide +kernel
theorem dX10_isSign_23 : decode cX10_isSign 23 = .ok (.iload_n 0, 1) := by decide +kernel
theorem dX10_isSign_24 : decode cX10_isSign 24 = .ok (.bipush 47, 2) := by decide +kernel
theorem dX10_isSign_26 : decode cX10_isSign 26 = .ok (.if_icmp .ne 7, 3) := by decide +kernel
theorem dX10_isSign_29 : decode cX10_isSign 29 = .ok (.iconst 1, 1) := by decide +kernel
theorem dX10_isSign_30 : decode cX10_isSign 30 = .ok (.goto 4, 3) := by decide +kernel
theorem dX10_isSign_33 : decode cX10_isSign 33 = .ok (.iconst 0, 1) := by decide +kernel
theorem dX10_isSign_34 : decode cX10_isSign 34 = .ok (.ireturn, 1) := by decide +kernel
theorem dX10_nameHere_0 : decode cX10_nameHere 0 = .ok (.iconst 0, 1) := by decide +kernel
theorem dX10_nameHere_1 : decode cX10_nameHere 1 = .ok (.istore_n 1, 1) := by decide +kernel
theorem dX10_nameHere_2 : decode cX10_nameHere 2 = .ok (.iload_n 1, 1) := by decide +kernel
theorem dX10_nameHere_3 : decode cX10_nameHere 3 = .ok (.iconst 3, 1) := by decide +kernel
theorem dX10_nameHere_4 : decode cX10_nameHere 4 = .ok (.if_icmp .ge 113, 3) := by decide +kernel
theorem dX10_nameHere_7 : decode cX10_nameHere 7 = .ok (.aload_n 0, 1) := by decide +kernel
theorem dX10_nameHere_8 : decode cX10_nameHere 8 = .ok (.getfield 86, 3) := by decide +kernel
theorem dX10_nameHere_11 : decode cX10_nameHere 11 = .ok (.iconst 1, 1) := by decide +kernel
theorem dX10_nameHere_12 : decode cX10_nameHere 12 = .ok (.if_icmp .ne 105, 3) := by decide +kernel
theorem dX10_nameHere_15 : decode cX10_nameHere 15 = .ok (.aload_n 0, 1) := by decide +kernel
theorem dX10_nameHere_16 : decode cX10_nameHere 16 = .ok (.getfield 89, 3) := by decide +kernel
theorem dX10_nameHere_19 : decode cX10_nameHere 19 = .ok (.aload_n 0, 1) := by decide +kernel
theorem dX10_nameHere_20 : decode cX10_nameHere 20 = .ok (.getfield 72, 3) := by decide +kernel
theorem dX10_nameHere_23 : decode cX10_nameHere 23 = .ok (.isub, 1) := by decide +kernel
theorem dX10_nameHere_24 : decode cX10_nameHere 24 = .ok (.aload_n 0, 1) := by decide +kernel
theorem dX10_nameHere_25 : decode cX10_nameHere 25 = .ok (.getfield 19, 3) := by decide +kernel
theorem dX10_nameHere_28 : decode cX10_nameHere 28 = .ok (.iload_n 1, 1) := by decide +kernel
theorem dX10_nameHere_29 : decode cX10_nameHere 29 = .ok (.iconst 1, 1) := by decide +kernel
theorem dX10_nameHere_30 : decode cX10_nameHere 30 = .ok (.iadd, 1) := by decide +kernel
theorem dX10_nameHere_31 : decode cX10_nameHere 31 = .ok (.iaload, 1) := by decide +kernel
theorem dX10_nameHere_32 : decode cX10_nameHere 32 = .ok (.aload_n 0, 1) := by decide +kernel
theorem dX10_nameHere_33 : decode cX10_nameHere 33 = .ok (.getfield 19, 3) := by decide +kernel
theorem dX10_nameHere_36 : decode cX10_nameHere 36 = .ok (.iload_n 1, 1) := by decide +kernel
theorem dX10_nameHere_37 : decode cX10_nameHere 37 = .ok (.iaload, 1) := by decide +kernel
theorem dX10_nameHere_38 : decode cX10_nameHere 38 = .ok (.isub, 1) := by decide +kernel
theorem dX10_nameHere_39 : decode cX10_nameHere 39 = .ok (.if_icmp .ne 7, 3) := by decide +kernel
theorem dX10_nameHere_42 : decode cX10_nameHere 42 = .ok (.iconst 1, 1) := by decide +kernel
theorem dX10_nameHere_43 : decode cX10_nameHere 43 = .ok (.goto 4, 3) := by decide +kernel
theorem dX10_nameHere_46 : decode cX10_nameHere 46 = .ok (.iconst 0, 1) := by decide +kernel
theorem dX10_nameHere_47 : decode cX10_nameHere 47 = .ok (.istore_n 2, 1) := by decide +kernel
theorem dX10_nameHere_48 : decode cX10_nameHere 48 = .ok (.iconst 0, 1) := by decide +kernel
theorem dX10_nameHere_49 : decode cX10_nameHere 49 = .ok (.istore_n 3, 1) := by decide +kernel
theorem dX10_nameHere_50 : decode cX10_nameHere 50 = .ok (.iload_n 2, 1) := by decide +kernel
theorem dX10_nameHere_51 : decode cX10_nameHere 51 = .ok (.ifCond .eq 54, 3) := by decide +kernel
theorem dX10_nameHere_54 : decode cX10_nameHere 54 = .ok (.iload_n 3, 1) := by decide +kernel
theorem dX10_nameHere_55 : decode cX10_nameHere 55 = .ok (.aload_n 0, 1) := by decide +kernel
theorem dX10_nameHere_56 : decode cX10_nameHere 56 = .ok (.getfield 89, 3) := by decide +kernel
theorem dX10_nameHere_59 : decode cX10_nameHere 59 = .ok (.aload_n 0, 1) := by decide +kernel
theorem dX10_nameHere_60 : decode cX10_nameHere 60 = .ok (.getfield 72, 3) := by decide +kernel
theorem dX10_nameHere_63 : decode cX10_nameHere 63 = .ok (.isub, 1) := by decide +kernel
theorem dX10_nameHere_64 : decode cX10_nameHere 64 = .ok (.if_icmp .ge 41, 3) := by decide +kernel
theorem dX10_nameHere_67 : decode cX10_nameHere 67 = .ok (.aload_n 0, 1) := by decide +kernel
theorem dX10_nameHere_68 : decode cX10_nameHere 68 = .ok (.aload_n 0, 1) := by decide +kernel
theorem dX10_nameHere_69 : decode cX10_nameHere 69 = .ok (.getfield 72, 3) := by decide +kernel
theorem dX10_nameHere_72 : decode cX10_nameHere 72 = .ok (.iload_n 3, 1) := by decide +kernel
theorem dX10_nameHere_73 : decode cX10_nameHere 73 = .ok (.iadd, 1) := by decide +kernel
theorem dX10_nameHere_74 : decode cX10_nameHere 74 = .ok (.invokevirtual 92, 3) := by decide +kernel
theorem dX10_nameHere_77 : decode cX10_nameHere 77 = .ok (.aload_n 0, 1) := by decide +kernel
theorem dX10_nameHere_78 : decode cX10_nameHere 78 = .ok (.getfield 22, 3) := by decide +kernel
theorem dX10_nameHere_81 : decode cX10_nameHere 81 = .ok (.aload_n 0, 1) := by decide +kernel
theorem dX10_nameHere_82 : decode cX10_nameHere 82 = .ok (.getfield 19, 3) := by decide +kernel
theorem dX10_nameHere_85 : decode cX10_nameHere 85 = .ok (.iload_n 1, 1) := by decide +kernel
theorem dX10_nameHere_86 : decode cX10_nameHere 86 = .ok (.iaload, 1) := by decide +kernel
theorem dX10_nameHere_87 : decode cX10_nameHere 87 = .ok (.iload_n 3, 1) := by decide +kernel
theorem dX10_nameHere_88 : decode cX10_nameHere 88 = .ok (.iadd, 1) := by decide +kernel
theorem dX10_nameHere_89 : decode cX10_nameHere 89 = .ok (.iaload, 1) := by decide +kernel
theorem dX10_nameHere_90 : decode cX10_nameHere 90 = .ok (.if_icmp .ne 7, 3) := by decide +kernel
theorem dX10_nameHere_93 : decode cX10_nameHere 93 = .ok (.iconst 1, 1) := by decide +kernel
theorem dX10_nameHere_94 : decode cX10_nameHere 94 = .ok (.goto 4, 3) := by decide +kernel
theorem dX10_nameHere_97 : decode cX10_nameHere 97 = .ok (.iconst 0, 1) := by decide +kernel
theorem dX10_nameHere_98 : decode cX10_nameHere 98 = .ok (.istore_n 2, 1) := by decide +kernel
theorem dX10_nameHere_99 : decode cX10_nameHere 99 = .ok (.iinc 3 1, 3) := by decide +kernel
theorem dX10_nameHere_102 : decode cX10_nameHere 102 = .ok (.goto (-52), 3) := by decide +kernel
theorem dX10_nameHere_105 : decode cX10_nameHere 105 = .ok (.iload_n 2, 1) := by decide +kernel
theorem dX10_nameHere_106 : decode cX10_nameHere 106 = .ok (.ifCond .eq 5, 3) := by decide +kernel
theorem dX10_nameHere_109 : decode cX10_nameHere 109 = .ok (.iload_n 1, 1) := by decide +kernel
theorem dX10_nameHere_110 : decode cX10_nameHere 110 = .ok (.ireturn, 1) := by decide +kernel
theorem dX10_nameHere_111 : decode cX10_nameHere 111 = .ok (.iinc 1 1, 3) := by decide +kernel
theorem dX10_nameHere_114 : decode cX10_nameHere 114 = .ok (.goto (-112), 3) := by decide +kernel
theorem dX10_nameHere_117 : decode cX10_nameHere 117 = .ok (.bipush (-4), 2) := by decide +kernel
theorem dX10_nameHere_119 : decode cX10_nameHere 119 = .ok (.ireturn, 1) := by decide +kernel
theorem dX10_quoteRead_0 : decode cX10_quoteRead 0 = .ok (.aload_n 0, 1) := by decide +kernel
theorem dX10_quoteRead_1 : decode cX10_quoteRead 1 = .ok (.iconst 4, 1) := by decide +kernel
theorem dX10_quoteRead_2 : decode cX10_quoteRead 2 = .ok (.putfield 86, 3) := by decide +kernel
theorem dX10_quoteRead_5 : decode cX10_quoteRead 5 = .ok (.aload_n 0, 1) := by decide +kernel
theorem dX10_quoteRead_6 : decode cX10_quoteRead 6 = .ok (.aload_n 0, 1) := by decide +kernel
theorem dX10_quoteRead_7 : decode cX10_quoteRead 7 = .ok (.getfield 72, 3) := by decide +kernel
theorem dX10_quoteRead_10 : decode cX10_quoteRead 10 = .ok (.putfield 95, 3) := by decide +kernel
theorem dX10_quoteRead_13 : decode cX10_quoteRead 13 = .ok (.aload_n 0, 1) := by decide +kernel
theorem dX10_quoteRead_14 : decode cX10_quoteRead 14 = .ok (.dup, 1) := by decide +kernel
theorem dX10_quoteRead_15 : decode cX10_quoteRead 15 = .ok (.getfield 89, 3) := by decide +kernel
theorem dX10_quoteRead_18 : decode cX10_quoteRead 18 = .ok (.iconst 1, 1) := by decide +kernel
theorem dX10_quoteRead_19 : decode cX10_quoteRead 19 = .ok (.iadd, 1) := by decide +kernel
theorem dX10_quoteRead_20 : decode cX10_quoteRead 20 = .ok (.putfield 89, 3) := by decide +kernel
theorem dX10_quoteRead_23 : decode cX10_quoteRead 23 = .ok (.aload_n 0, 1) := by decide +kernel
theorem dX10_quoteRead_24 : decode cX10_quoteRead 24 = .ok (.getfield 69, 3) := by decide +kernel
theorem dX10_quoteRead_27 : decode cX10_quoteRead 27 = .ok (.ifCond .ne 88, 3) := by decide +kernel
theorem dX10_quoteRead_30 : decode cX10_quoteRead 30 = .ok (.aload_n 0, 1) := by decide +kernel
theorem dX10_quoteRead_31 : decode cX10_quoteRead 31 = .ok (.aload_n 0, 1) := by decide +kernel
theorem dX10_quoteRead_32 : decode cX10_quoteRead 32 = .ok (.getfield 89, 3) := by decide +kernel
theorem dX10_quoteRead_35 : decode cX10_quoteRead 35 = .ok (.invokevirtual 92, 3) := by decide +kernel
theorem dX10_quoteRead_38 : decode cX10_quoteRead 38 = .ok (.bipush 34, 2) := by decide +kernel
theorem dX10_quoteRead_40 : decode cX10_quoteRead 40 = .ok (.if_icmp .eq 75, 3) := by decide +kernel
theorem dX10_quoteRead_43 : decode cX10_quoteRead 43 = .ok (.aload_n 0, 1) := by decide +kernel
theorem dX10_quoteRead_44 : decode cX10_quoteRead 44 = .ok (.aload_n 0, 1) := by decide +kernel
theorem dX10_quoteRead_45 : decode cX10_quoteRead 45 = .ok (.getfield 89, 3) := by decide +kernel
theorem dX10_quoteRead_48 : decode cX10_quoteRead 48 = .ok (.invokevirtual 92, 3) := by decide +kernel
theorem dX10_quoteRead_51 : decode cX10_quoteRead 51 = .ok (.invokestatic 98, 3) := by decide +kernel
theorem dX10_quoteRead_54 : decode cX10_quoteRead 54 = .ok (.ifCond .ne 48, 3) := by decide +kernel
theorem dX10_quoteRead_57 : decode cX10_quoteRead 57 = .ok (.aload_n 0, 1) := by decide +kernel
theorem dX10_quoteRead_58 : decode cX10_quoteRead 58 = .ok (.aload_n 0, 1) := by decide +kernel
theorem dX10_quoteRead_59 : decode cX10_quoteRead 59 = .ok (.getfield 89, 3) := by decide +kernel
theorem dX10_quoteRead_62 : decode cX10_quoteRead 62 = .ok (.aload_n 0, 1) := by decide +kernel
theorem dX10_quoteRead_63 : decode cX10_quoteRead 63 = .ok (.getfield 95, 3) := by decide +kernel
theorem dX10_quoteRead_66 : decode cX10_quoteRead 66 = .ok (.isub, 1) := by decide +kernel
theorem dX10_quoteRead_67 : decode cX10_quoteRead 67 = .ok (.iconst 1, 1) := by decide +kernel
theorem dX10_quoteRead_68 : decode cX10_quoteRead 68 = .ok (.isub, 1) := by decide +kernel
theorem dX10_quoteRead_69 : decode cX10_quoteRead 69 = .ok (.putfield 102, 3) := by decide +kernel
theorem dX10_quoteRead_72 : decode cX10_quoteRead 72 = .ok (.aload_n 0, 1) := by decide +kernel
theorem dX10_quoteRead_73 : decode cX10_quoteRead 73 = .ok (.aload_n 0, 1) := by decide +kernel
theorem dX10_quoteRead_74 : decode cX10_quoteRead 74 = .ok (.getfield 89, 3) := by decide +kernel
theorem dX10_quoteRead_77 : decode cX10_quoteRead 77 = .ok (.putfield 72, 3) := by decide +kernel
theorem dX10_quoteRead_80 : decode cX10_quoteRead 80 = .ok (.aload_n 0, 1) := by decide +kernel
theorem dX10_quoteRead_81 : decode cX10_quoteRead 81 = .ok (.aload_n 0, 1) := by decide +kernel
theorem dX10_quoteRead_82 : decode cX10_quoteRead 82 = .ok (.aload_n 0, 1) := by decide +kernel
theorem dX10_quoteRead_83 : decode cX10_quoteRead 83 = .ok (.getfield 89, 3) := by decide +kernel
theorem dX10_quoteRead_86 : decode cX10_quoteRead 86 = .ok (.invokevirtual 92, 3) := by decide +kernel
theorem dX10_quoteRead_89 : decode cX10_quoteRead 89 = .ok (.bipush (-4), 2) := by decide +kernel
theorem dX10_quoteRead_91 : decode cX10_quoteRead 91 = .ok (.if_icmp .ne 7, 3) := by decide +kernel
theorem dX10_quoteRead_94 : decode cX10_quoteRead 94 = .ok (.iconst 2, 1) := by decide +kernel
theorem dX10_quoteRead_95 : decode cX10_quoteRead 95 = .ok (.goto 4, 3) := by decide +kernel
theorem dX10_quoteRead_98 : decode cX10_quoteRead 98 = .ok (.iconst 1, 1) := by decide +kernel
theorem dX10_quoteRead_99 : decode cX10_quoteRead 99 = .ok (.invokevirtual 105, 3) := by decide +kernel
theorem dX10_quoteRead_102 : decode cX10_quoteRead 102 = .ok (.aload_n 0, 1) := by decide +kernel
theorem dX10_quoteRead_103 : decode cX10_quoteRead 103 = .ok (.dup, 1) := by decide +kernel
theorem dX10_quoteRead_104 : decode cX10_quoteRead 104 = .ok (.getfield 89, 3) := by decide +kernel
theorem dX10_quoteRead_107 : decode cX10_quoteRead 107 = .ok (.iconst 1, 1) := by decide +kernel
theorem dX10_quoteRead_108 : decode cX10_quoteRead 108 = .ok (.iadd, 1) := by decide +kernel
theorem dX10_quoteRead_109 : decode cX10_quoteRead 109 = .ok (.putfield 89, 3) := by decide +kernel
theorem dX10_quoteRead_112 : decode cX10_quoteRead 112 = .ok (.goto (-89), 3) := by decide +kernel
theorem dX10_quoteRead_115 : decode cX10_quoteRead 115 = .ok (.aload_n 0, 1) := by decide +kernel
theorem dX10_quoteRead_116 : decode cX10_quoteRead 116 = .ok (.dup, 1) := by decide +kernel
theorem dX10_quoteRead_117 : decode cX10_quoteRead 117 = .ok (.getfield 89, 3) := by decide +kernel
theorem dX10_quoteRead_120 : decode cX10_quoteRead 120 = .ok (.iconst 1, 1) := by decide +kernel
theorem dX10_quoteRead_121 : decode cX10_quoteRead 121 = .ok (.iadd, 1) := by decide +kernel
theorem dX10_quoteRead_122 : decode cX10_quoteRead 122 = .ok (.putfield 89, 3) := by decide +kernel
theorem dX10_quoteRead_125 : decode cX10_quoteRead 125 = .ok (.return_, 1) := by decide +kernel
theorem dX10_readsOn_0 : decode cX10_readsOn 0 = .ok (.aload_n 0, 1) := by decide +kernel
theorem dX10_readsOn_1 : decode cX10_readsOn 1 = .ok (.getfield 69, 3) := by decide +kernel
theorem dX10_readsOn_4 : decode cX10_readsOn 4 = .ok (.ifCond .le 4, 3) := by decide +kernel
theorem dX10_readsOn_7 : decode cX10_readsOn 7 = .ok (.return_, 1) := by decide +kernel
theorem dX10_readsOn_8 : decode cX10_readsOn 8 = .ok (.aload_n 0, 1) := by decide +kernel
theorem dX10_readsOn_9 : decode cX10_readsOn 9 = .ok (.aload_n 0, 1) := by decide +kernel
theorem dX10_readsOn_10 : decode cX10_readsOn 10 = .ok (.getfield 89, 3) := by decide +kernel
theorem dX10_readsOn_13 : decode cX10_readsOn 13 = .ok (.invokevirtual 92, 3) := by decide +kernel
theorem dX10_readsOn_16 : decode cX10_readsOn 16 = .ok (.bipush 32, 2) := by decide +kernel
theorem dX10_readsOn_18 : decode cX10_readsOn 18 = .ok (.if_icmp .ne 16, 3) := by decide +kernel
theorem dX10_readsOn_21 : decode cX10_readsOn 21 = .ok (.aload_n 0, 1) := by decide +kernel
theorem dX10_readsOn_22 : decode cX10_readsOn 22 = .ok (.dup, 1) := by decide +kernel
theorem dX10_readsOn_23 : decode cX10_readsOn 23 = .ok (.getfield 89, 3) := by decide +kernel
theorem dX10_readsOn_26 : decode cX10_readsOn 26 = .ok (.iconst 1, 1) := by decide +kernel
theorem dX10_readsOn_27 : decode cX10_readsOn 27 = .ok (.iadd, 1) := by decide +kernel
theorem dX10_readsOn_28 : decode cX10_readsOn 28 = .ok (.putfield 89, 3) := by decide +kernel
theorem dX10_readsOn_31 : decode cX10_readsOn 31 = .ok (.goto (-23), 3) := by decide +kernel
theorem dX10_readsOn_34 : decode cX10_readsOn 34 = .ok (.aload_n 0, 1) := by decide +kernel
theorem dX10_readsOn_35 : decode cX10_readsOn 35 = .ok (.aload_n 0, 1) := by decide +kernel
theorem dX10_readsOn_36 : decode cX10_readsOn 36 = .ok (.getfield 89, 3) := by decide +kernel
theorem dX10_readsOn_39 : decode cX10_readsOn 39 = .ok (.putfield 72, 3) := by decide +kernel
theorem dX10_readsOn_42 : decode cX10_readsOn 42 = .ok (.aload_n 0, 1) := by decide +kernel
theorem dX10_readsOn_43 : decode cX10_readsOn 43 = .ok (.aload_n 0, 1) := by decide +kernel
theorem dX10_readsOn_44 : decode cX10_readsOn 44 = .ok (.getfield 89, 3) := by decide +kernel
theorem dX10_readsOn_47 : decode cX10_readsOn 47 = .ok (.invokevirtual 92, 3) := by decide +kernel
theorem dX10_readsOn_50 : decode cX10_readsOn 50 = .ok (.istore_n 1, 1) := by decide +kernel
theorem dX10_readsOn_51 : decode cX10_readsOn 51 = .ok (.aload_n 0, 1) := by decide +kernel
theorem dX10_readsOn_52 : decode cX10_readsOn 52 = .ok (.iconst 0, 1) := by decide +kernel
theorem dX10_readsOn_53 : decode cX10_readsOn 53 = .ok (.putfield 109, 3) := by decide +kernel
theorem dX10_readsOn_56 : decode cX10_readsOn 56 = .ok (.aload_n 0, 1) := by decide +kernel
theorem dX10_readsOn_57 : decode cX10_readsOn 57 = .ok (.bipush (-4), 2) := by decide +kernel
theorem dX10_readsOn_59 : decode cX10_readsOn 59 = .ok (.putfield 102, 3) := by decide +kernel
theorem dX10_readsOn_62 : decode cX10_readsOn 62 = .ok (.iload_n 1, 1) := by decide +kernel
theorem dX10_readsOn_63 : decode cX10_readsOn 63 = .ok (.bipush (-4), 2) := by decide +kernel
theorem dX10_readsOn_65 : decode cX10_readsOn 65 = .ok (.if_icmp .ne 11, 3) := by decide +kernel
theorem dX10_readsOn_68 : decode cX10_readsOn 68 = .ok (.aload_n 0, 1) := by decide +kernel
theorem dX10_readsOn_69 : decode cX10_readsOn 69 = .ok (.iconst 0, 1) := by decide +kernel
theorem dX10_readsOn_70 : decode cX10_readsOn 70 = .ok (.putfield 86, 3) := by decide +kernel
theorem dX10_readsOn_73 : decode cX10_readsOn 73 = .ok (.goto 215, 3) := by decide +kernel
theorem dX10_readsOn_76 : decode cX10_readsOn 76 = .ok (.iload_n 1, 1) := by decide +kernel
theorem dX10_readsOn_77 : decode cX10_readsOn 77 = .ok (.i2l, 1) := by decide +kernel
theorem dX10_readsOn_78 : decode cX10_readsOn 78 = .ok (.ldc2_w 82, 3) := by decide +kernel
theorem dX10_readsOn_81 : decode cX10_readsOn 81 = .ok (.ldc2_w 84, 3) := by decide +kernel
theorem dX10_readsOn_84 : decode cX10_readsOn 84 = .ok (.invokestatic 61, 3) := by decide +kernel
theorem dX10_readsOn_87 : decode cX10_readsOn 87 = .ok (.ifCond .eq 45, 3) := by decide +kernel
theorem dX10_readsOn_90 : decode cX10_readsOn 90 = .ok (.aload_n 0, 1) := by decide +kernel
theorem dX10_readsOn_91 : decode cX10_readsOn 91 = .ok (.aload_n 0, 1) := by decide +kernel
theorem dX10_readsOn_92 : decode cX10_readsOn 92 = .ok (.getfield 89, 3) := by decide +kernel
theorem dX10_readsOn_95 : decode cX10_readsOn 95 = .ok (.invokevirtual 92, 3) := by decide +kernel
theorem dX10_readsOn_98 : decode cX10_readsOn 98 = .ok (.i2l, 1) := by decide +kernel
theorem dX10_readsOn_99 : decode cX10_readsOn 99 = .ok (.ldc2_w 82, 3) := by decide +kernel
theorem dX10_readsOn_102 : decode cX10_readsOn 102 = .ok (.ldc2_w 84, 3) := by decide +kernel
theorem dX10_readsOn_105 : decode cX10_readsOn 105 = .ok (.invokestatic 61, 3) := by decide +kernel
theorem dX10_readsOn_108 : decode cX10_readsOn 108 = .ok (.ifCond .eq 16, 3) := by decide +kernel
theorem dX10_readsOn_111 : decode cX10_readsOn 111 = .ok (.aload_n 0, 1) := by decide +kernel
theorem dX10_readsOn_112 : decode cX10_readsOn 112 = .ok (.dup, 1) := by decide +kernel
theorem dX10_readsOn_113 : decode cX10_readsOn 113 = .ok (.getfield 89, 3) := by decide +kernel
theorem dX10_readsOn_116 : decode cX10_readsOn 116 = .ok (.iconst 1, 1) := by decide +kernel
theorem dX10_readsOn_117 : decode cX10_readsOn 117 = .ok (.iadd, 1) := by decide +kernel
theorem dX10_readsOn_118 : decode cX10_readsOn 118 = .ok (.putfield 89, 3) := by decide +kernel
theorem dX10_readsOn_121 : decode cX10_readsOn 121 = .ok (.goto (-31), 3) := by decide +kernel
theorem dX10_readsOn_124 : decode cX10_readsOn 124 = .ok (.aload_n 0, 1) := by decide +kernel
theorem dX10_readsOn_125 : decode cX10_readsOn 125 = .ok (.iconst 1, 1) := by decide +kernel
theorem dX10_readsOn_126 : decode cX10_readsOn 126 = .ok (.putfield 86, 3) := by decide +kernel
theorem dX10_readsOn_129 : decode cX10_readsOn 129 = .ok (.goto 159, 3) := by decide +kernel
theorem dX10_readsOn_132 : decode cX10_readsOn 132 = .ok (.iload_n 1, 1) := by decide +kernel
theorem dX10_readsOn_133 : decode cX10_readsOn 133 = .ok (.i2l, 1) := by decide +kernel
theorem dX10_readsOn_134 : decode cX10_readsOn 134 = .ok (.ldc2_w 112, 3) := by decide +kernel
theorem dX10_readsOn_137 : decode cX10_readsOn 137 = .ok (.ldc2_w 114, 3) := by decide +kernel
theorem dX10_readsOn_140 : decode cX10_readsOn 140 = .ok (.invokestatic 61, 3) := by decide +kernel
theorem dX10_readsOn_143 : decode cX10_readsOn 143 = .ok (.ifCond .eq 106, 3) := by decide +kernel
theorem dX10_readsOn_146 : decode cX10_readsOn 146 = .ok (.aload_n 0, 1) := by decide +kernel
theorem dX10_readsOn_147 : decode cX10_readsOn 147 = .ok (.aload_n 0, 1) := by decide +kernel
theorem dX10_readsOn_148 : decode cX10_readsOn 148 = .ok (.getfield 89, 3) := by decide +kernel
theorem dX10_readsOn_151 : decode cX10_readsOn 151 = .ok (.invokevirtual 92, 3) := by decide +kernel
theorem dX10_readsOn_154 : decode cX10_readsOn 154 = .ok (.i2l, 1) := by decide +kernel
theorem dX10_readsOn_155 : decode cX10_readsOn 155 = .ok (.ldc2_w 112, 3) := by decide +kernel
theorem dX10_readsOn_158 : decode cX10_readsOn 158 = .ok (.ldc2_w 114, 3) := by decide +kernel
theorem dX10_readsOn_161 : decode cX10_readsOn 161 = .ok (.invokestatic 61, 3) := by decide +kernel
theorem dX10_readsOn_164 : decode cX10_readsOn 164 = .ok (.ifCond .eq 59, 3) := by decide +kernel
theorem dX10_readsOn_167 : decode cX10_readsOn 167 = .ok (.aload_n 0, 1) := by decide +kernel
theorem dX10_readsOn_168 : decode cX10_readsOn 168 = .ok (.aload_n 0, 1) := by decide +kernel
theorem dX10_readsOn_169 : decode cX10_readsOn 169 = .ok (.getfield 89, 3) := by decide +kernel
theorem dX10_readsOn_172 : decode cX10_readsOn 172 = .ok (.aload_n 0, 1) := by decide +kernel
theorem dX10_readsOn_173 : decode cX10_readsOn 173 = .ok (.getfield 72, 3) := by decide +kernel
theorem dX10_readsOn_176 : decode cX10_readsOn 176 = .ok (.isub, 1) := by decide +kernel
theorem dX10_readsOn_177 : decode cX10_readsOn 177 = .ok (.iconst 2, 1) := by decide +kernel
theorem dX10_readsOn_178 : decode cX10_readsOn 178 = .ok (.if_icmp .ge 25, 3) := by decide +kernel
theorem dX10_readsOn_181 : decode cX10_readsOn 181 = .ok (.bipush 10, 2) := by decide +kernel
theorem dX10_readsOn_183 : decode cX10_readsOn 183 = .ok (.aload_n 0, 1) := by decide +kernel
theorem dX10_readsOn_184 : decode cX10_readsOn 184 = .ok (.getfield 109, 3) := by decide +kernel
theorem dX10_readsOn_187 : decode cX10_readsOn 187 = .ok (.imul, 1) := by decide +kernel
theorem dX10_readsOn_188 : decode cX10_readsOn 188 = .ok (.aload_n 0, 1) := by decide +kernel
theorem dX10_readsOn_189 : decode cX10_readsOn 189 = .ok (.aload_n 0, 1) := by decide +kernel
theorem dX10_readsOn_190 : decode cX10_readsOn 190 = .ok (.getfield 89, 3) := by decide +kernel
theorem dX10_readsOn_193 : decode cX10_readsOn 193 = .ok (.invokevirtual 92, 3) := by decide +kernel
theorem dX10_readsOn_196 : decode cX10_readsOn 196 = .ok (.iadd, 1) := by decide +kernel
theorem dX10_readsOn_197 : decode cX10_readsOn 197 = .ok (.bipush 48, 2) := by decide +kernel
theorem dX10_readsOn_199 : decode cX10_readsOn 199 = .ok (.isub, 1) := by decide +kernel
theorem dX10_readsOn_200 : decode cX10_readsOn 200 = .ok (.goto 7, 3) := by decide +kernel
theorem dX10_readsOn_203 : decode cX10_readsOn 203 = .ok (.aload_n 0, 1) := by decide +kernel
theorem dX10_readsOn_204 : decode cX10_readsOn 204 = .ok (.getfield 109, 3) := by decide +kernel
theorem dX10_readsOn_207 : decode cX10_readsOn 207 = .ok (.putfield 109, 3) := by decide +kernel
theorem dX10_readsOn_210 : decode cX10_readsOn 210 = .ok (.aload_n 0, 1) := by decide +kernel
theorem dX10_readsOn_211 : decode cX10_readsOn 211 = .ok (.dup, 1) := by decide +kernel
theorem dX10_readsOn_212 : decode cX10_readsOn 212 = .ok (.getfield 89, 3) := by decide +kernel
theorem dX10_readsOn_215 : decode cX10_readsOn 215 = .ok (.iconst 1, 1) := by decide +kernel
theorem dX10_readsOn_216 : decode cX10_readsOn 216 = .ok (.iadd, 1) := by decide +kernel
theorem dX10_readsOn_217 : decode cX10_readsOn 217 = .ok (.putfield 89, 3) := by decide +kernel
theorem dX10_readsOn_220 : decode cX10_readsOn 220 = .ok (.goto (-74), 3) := by decide +kernel
theorem dX10_readsOn_223 : decode cX10_readsOn 223 = .ok (.aload_n 0, 1) := by decide +kernel
theorem dX10_readsOn_224 : decode cX10_readsOn 224 = .ok (.iconst 2, 1) := by decide +kernel
theorem dX10_readsOn_225 : decode cX10_readsOn 225 = .ok (.putfield 86, 3) := by decide +kernel
theorem dX10_readsOn_228 : decode cX10_readsOn 228 = .ok (.aload_n 0, 1) := by decide +kernel
theorem dX10_readsOn_229 : decode cX10_readsOn 229 = .ok (.getfield 89, 3) := by decide +kernel
theorem dX10_readsOn_232 : decode cX10_readsOn 232 = .ok (.aload_n 0, 1) := by decide +kernel
theorem dX10_readsOn_233 : decode cX10_readsOn 233 = .ok (.getfield 72, 3) := by decide +kernel
theorem dX10_readsOn_236 : decode cX10_readsOn 236 = .ok (.isub, 1) := by decide +kernel
theorem dX10_readsOn_237 : decode cX10_readsOn 237 = .ok (.iconst 2, 1) := by decide +kernel
theorem dX10_readsOn_238 : decode cX10_readsOn 238 = .ok (.if_icmp .le 50, 3) := by decide +kernel
theorem dX10_readsOn_241 : decode cX10_readsOn 241 = .ok (.aload_n 0, 1) := by decide +kernel
theorem dX10_readsOn_242 : decode cX10_readsOn 242 = .ok (.iconst 1, 1) := by decide +kernel
theorem dX10_readsOn_243 : decode cX10_readsOn 243 = .ok (.invokevirtual 105, 3) := by decide +kernel
theorem dX10_readsOn_246 : decode cX10_readsOn 246 = .ok (.goto 42, 3) := by decide +kernel
theorem dX10_readsOn_249 : decode cX10_readsOn 249 = .ok (.iload_n 1, 1) := by decide +kernel
theorem dX10_readsOn_250 : decode cX10_readsOn 250 = .ok (.bipush 34, 2) := by decide +kernel
theorem dX10_readsOn_252 : decode cX10_readsOn 252 = .ok (.if_icmp .ne 10, 3) := by decide +kernel
theorem dX10_readsOn_255 : decode cX10_readsOn 255 = .ok (.aload_n 0, 1) := by decide +kernel
theorem dX10_readsOn_256 : decode cX10_readsOn 256 = .ok (.invokevirtual 116, 3) := by decide +kernel
theorem dX10_readsOn_259 : decode cX10_readsOn 259 = .ok (.goto 29, 3) := by decide +kernel
theorem dX10_readsOn_262 : decode cX10_readsOn 262 = .ok (.aload_n 0, 1) := by decide +kernel
theorem dX10_readsOn_263 : decode cX10_readsOn 263 = .ok (.iconst 3, 1) := by decide +kernel
theorem dX10_readsOn_264 : decode cX10_readsOn 264 = .ok (.putfield 86, 3) := by decide +kernel
theorem dX10_readsOn_267 : decode cX10_readsOn 267 = .ok (.aload_n 0, 1) := by decide +kernel
theorem dX10_readsOn_268 : decode cX10_readsOn 268 = .ok (.dup, 1) := by decide +kernel
theorem dX10_readsOn_269 : decode cX10_readsOn 269 = .ok (.getfield 89, 3) := by decide +kernel
theorem dX10_readsOn_272 : decode cX10_readsOn 272 = .ok (.iconst 1, 1) := by decide +kernel
theorem dX10_readsOn_273 : decode cX10_readsOn 273 = .ok (.iadd, 1) := by decide +kernel
theorem dX10_readsOn_274 : decode cX10_readsOn 274 = .ok (.putfield 89, 3) := by decide +kernel
theorem dX10_readsOn_277 : decode cX10_readsOn 277 = .ok (.iload_n 1, 1) := by decide +kernel
theorem dX10_readsOn_278 : decode cX10_readsOn 278 = .ok (.bipush 59, 2) := by decide +kernel
theorem dX10_readsOn_280 : decode cX10_readsOn 280 = .ok (.if_icmp .eq 8, 3) := by decide +kernel
theorem dX10_readsOn_283 : decode cX10_readsOn 283 = .ok (.aload_n 0, 1) := by decide +kernel
theorem dX10_readsOn_284 : decode cX10_readsOn 284 = .ok (.iconst 1, 1) := by decide +kernel
theorem dX10_readsOn_285 : decode cX10_readsOn 285 = .ok (.invokevirtual 105, 3) := by decide +kernel
theorem dX10_readsOn_288 : decode cX10_readsOn 288 = .ok (.return_, 1) := by decide +kernel
theorem dX10_takes_0 : decode cX10_takes 0 = .ok (.aload_n 0, 1) := by decide +kernel
theorem dX10_takes_1 : decode cX10_takes 1 = .ok (.getfield 69, 3) := by decide +kernel
theorem dX10_takes_4 : decode cX10_takes 4 = .ok (.ifCond .ne 13, 3) := by decide +kernel
theorem dX10_takes_7 : decode cX10_takes 7 = .ok (.aload_n 0, 1) := by decide +kernel
theorem dX10_takes_8 : decode cX10_takes 8 = .ok (.dup, 1) := by decide +kernel
theorem dX10_takes_9 : decode cX10_takes 9 = .ok (.getfield 119, 3) := by decide +kernel
theorem dX10_takes_12 : decode cX10_takes 12 = .ok (.iconst 1, 1) := by decide +kernel
theorem dX10_takes_13 : decode cX10_takes 13 = .ok (.iadd, 1) := by decide +kernel
theorem dX10_takes_14 : decode cX10_takes 14 = .ok (.putfield 119, 3) := by decide +kernel
theorem dX10_takes_17 : decode cX10_takes 17 = .ok (.aload_n 0, 1) := by decide +kernel
theorem dX10_takes_18 : decode cX10_takes 18 = .ok (.invokevirtual 122, 3) := by decide +kernel
theorem dX10_takes_21 : decode cX10_takes 21 = .ok (.return_, 1) := by decide +kernel
theorem dX10_numberRead_0 : decode cX10_numberRead 0 = .ok (.aload_n 0, 1) := by decide +kernel
theorem dX10_numberRead_1 : decode cX10_numberRead 1 = .ok (.getfield 69, 3) := by decide +kernel
theorem dX10_numberRead_4 : decode cX10_numberRead 4 = .ok (.ifCond .ne 16, 3) := by decide +kernel
theorem dX10_numberRead_7 : decode cX10_numberRead 7 = .ok (.aload_n 0, 1) := by decide +kernel
theorem dX10_numberRead_8 : decode cX10_numberRead 8 = .ok (.getfield 86, 3) := by decide +kernel
theorem dX10_numberRead_11 : decode cX10_numberRead 11 = .ok (.iconst 2, 1) := by decide +kernel
theorem dX10_numberRead_12 : decode cX10_numberRead 12 = .ok (.if_icmp .eq 8, 3) := by decide +kernel
theorem dX10_numberRead_15 : decode cX10_numberRead 15 = .ok (.aload_n 0, 1) := by decide +kernel
theorem dX10_numberRead_16 : decode cX10_numberRead 16 = .ok (.iconst 2, 1) := by decide +kernel
theorem dX10_numberRead_17 : decode cX10_numberRead 17 = .ok (.invokevirtual 105, 3) := by decide +kernel
theorem dX10_numberRead_20 : decode cX10_numberRead 20 = .ok (.aload_n 0, 1) := by decide +kernel
theorem dX10_numberRead_21 : decode cX10_numberRead 21 = .ok (.getfield 69, 3) := by decide +kernel
theorem dX10_numberRead_24 : decode cX10_numberRead 24 = .ok (.ifCond .ne 23, 3) := by decide +kernel
theorem dX10_numberRead_27 : decode cX10_numberRead 27 = .ok (.aload_n 0, 1) := by decide +kernel
theorem dX10_numberRead_28 : decode cX10_numberRead 28 = .ok (.getfield 109, 3) := by decide +kernel
theorem dX10_numberRead_31 : decode cX10_numberRead 31 = .ok (.i2l, 1) := by decide +kernel
theorem dX10_numberRead_32 : decode cX10_numberRead 32 = .ok (.iload_n 1, 1) := by decide +kernel
theorem dX10_numberRead_33 : decode cX10_numberRead 33 = .ok (.i2l, 1) := by decide +kernel
theorem dX10_numberRead_34 : decode cX10_numberRead 34 = .ok (.iload_n 2, 1) := by decide +kernel
theorem dX10_numberRead_35 : decode cX10_numberRead 35 = .ok (.i2l, 1) := by decide +kernel
theorem dX10_numberRead_36 : decode cX10_numberRead 36 = .ok (.invokestatic 61, 3) := by decide +kernel
theorem dX10_numberRead_39 : decode cX10_numberRead 39 = .ok (.ifCond .ne 8, 3) := by decide +kernel
theorem dX10_numberRead_42 : decode cX10_numberRead 42 = .ok (.aload_n 0, 1) := by decide +kernel
theorem dX10_numberRead_43 : decode cX10_numberRead 43 = .ok (.iconst 3, 1) := by decide +kernel
theorem dX10_numberRead_44 : decode cX10_numberRead 44 = .ok (.invokevirtual 105, 3) := by decide +kernel
theorem dX10_numberRead_47 : decode cX10_numberRead 47 = .ok (.aload_n 0, 1) := by decide +kernel
theorem dX10_numberRead_48 : decode cX10_numberRead 48 = .ok (.getfield 109, 3) := by decide +kernel
theorem dX10_numberRead_51 : decode cX10_numberRead 51 = .ok (.istore_n 3, 1) := by decide +kernel
theorem dX10_numberRead_52 : decode cX10_numberRead 52 = .ok (.aload_n 0, 1) := by decide +kernel
theorem dX10_numberRead_53 : decode cX10_numberRead 53 = .ok (.invokevirtual 125, 3) := by decide +kernel
theorem dX10_numberRead_56 : decode cX10_numberRead 56 = .ok (.aload_n 0, 1) := by decide +kernel
theorem dX10_numberRead_57 : decode cX10_numberRead 57 = .ok (.getfield 69, 3) := by decide +kernel
theorem dX10_numberRead_60 : decode cX10_numberRead 60 = .ok (.ifCond .ne 7, 3) := by decide +kernel
theorem dX10_numberRead_63 : decode cX10_numberRead 63 = .ok (.iload_n 3, 1) := by decide +kernel
theorem dX10_numberRead_64 : decode cX10_numberRead 64 = .ok (.goto 4, 3) := by decide +kernel
theorem dX10_numberRead_67 : decode cX10_numberRead 67 = .ok (.iload_n 1, 1) := by decide +kernel
theorem dX10_numberRead_68 : decode cX10_numberRead 68 = .ok (.ireturn, 1) := by decide +kernel
theorem dX10_signsRead_0 : decode cX10_signsRead 0 = .ok (.aload_n 0, 1) := by decide +kernel
theorem dX10_signsRead_1 : decode cX10_signsRead 1 = .ok (.getfield 69, 3) := by decide +kernel
theorem dX10_signsRead_4 : decode cX10_signsRead 4 = .ok (.ifCond .ne 16, 3) := by decide +kernel
theorem dX10_signsRead_7 : decode cX10_signsRead 7 = .ok (.aload_n 0, 1) := by decide +kernel
theorem dX10_signsRead_8 : decode cX10_signsRead 8 = .ok (.getfield 86, 3) := by decide +kernel
theorem dX10_signsRead_11 : decode cX10_signsRead 11 = .ok (.iconst 4, 1) := by decide +kernel
theorem dX10_signsRead_12 : decode cX10_signsRead 12 = .ok (.if_icmp .eq 8, 3) := by decide +kernel
theorem dX10_signsRead_15 : decode cX10_signsRead 15 = .ok (.aload_n 0, 1) := by decide +kernel
theorem dX10_signsRead_16 : decode cX10_signsRead 16 = .ok (.iconst 2, 1) := by decide +kernel
theorem dX10_signsRead_17 : decode cX10_signsRead 17 = .ok (.invokevirtual 105, 3) := by decide +kernel
theorem dX10_signsRead_20 : decode cX10_signsRead 20 = .ok (.aload_n 0, 1) := by decide +kernel
theorem dX10_signsRead_21 : decode cX10_signsRead 21 = .ok (.getfield 89, 3) := by decide +kernel
theorem dX10_signsRead_24 : decode cX10_signsRead 24 = .ok (.aload_n 0, 1) := by decide +kernel
theorem dX10_signsRead_25 : decode cX10_signsRead 25 = .ok (.getfield 72, 3) := by decide +kernel
theorem dX10_signsRead_28 : decode cX10_signsRead 28 = .ok (.isub, 1) := by decide +kernel
theorem dX10_signsRead_29 : decode cX10_signsRead 29 = .ok (.iconst 2, 1) := by decide +kernel
theorem dX10_signsRead_30 : decode cX10_signsRead 30 = .ok (.isub, 1) := by decide +kernel
theorem dX10_signsRead_31 : decode cX10_signsRead 31 = .ok (.istore_n 2, 1) := by decide +kernel
theorem dX10_signsRead_32 : decode cX10_signsRead 32 = .ok (.aload_n 0, 1) := by decide +kernel
theorem dX10_signsRead_33 : decode cX10_signsRead 33 = .ok (.getfield 7, 3) := by decide +kernel
theorem dX10_signsRead_36 : decode cX10_signsRead 36 = .ok (.sipush 243, 3) := by decide +kernel
theorem dX10_signsRead_39 : decode cX10_signsRead 39 = .ok (.iaload, 1) := by decide +kernel
theorem dX10_signsRead_40 : decode cX10_signsRead 40 = .ok (.istore_n 3, 1) := by decide +kernel
theorem dX10_signsRead_41 : decode cX10_signsRead 41 = .ok (.aload_n 0, 1) := by decide +kernel
theorem dX10_signsRead_42 : decode cX10_signsRead 42 = .ok (.getfield 69, 3) := by decide +kernel
theorem dX10_signsRead_45 : decode cX10_signsRead 45 = .ok (.ifCond .ne 18, 3) := by decide +kernel
theorem dX10_signsRead_48 : decode cX10_signsRead 48 = .ok (.iload_n 3, 1) := by decide +kernel
theorem dX10_signsRead_49 : decode cX10_signsRead 49 = .ok (.iload_n 1, 1) := by decide +kernel
theorem dX10_signsRead_50 : decode cX10_signsRead 50 = .ok (.iload_n 2, 1) := by decide +kernel
theorem dX10_signsRead_51 : decode cX10_signsRead 51 = .ok (.imul, 1) := by decide +kernel
theorem dX10_signsRead_52 : decode cX10_signsRead 52 = .ok (.iadd, 1) := by decide +kernel
theorem dX10_signsRead_53 : decode cX10_signsRead 53 = .ok (.bipush 60, 2) := by decide +kernel
theorem dX10_signsRead_55 : decode cX10_signsRead 55 = .ok (.if_icmp .le 8, 3) := by decide +kernel
theorem dX10_signsRead_58 : decode cX10_signsRead 58 = .ok (.aload_n 0, 1) := by decide +kernel
theorem dX10_signsRead_59 : decode cX10_signsRead 59 = .ok (.iconst 5, 1) := by decide +kernel
theorem dX10_signsRead_60 : decode cX10_signsRead 60 = .ok (.invokevirtual 105, 3) := by decide +kernel
theorem dX10_signsRead_63 : decode cX10_signsRead 63 = .ok (.iconst 0, 1) := by decide +kernel
theorem dX10_signsRead_64 : decode cX10_signsRead 64 = .ok (.istore 4, 2) := by decide +kernel
theorem dX10_signsRead_66 : decode cX10_signsRead 66 = .ok (.iload 4, 2) := by decide +kernel
theorem dX10_signsRead_68 : decode cX10_signsRead 68 = .ok (.iload_n 1, 1) := by decide +kernel
theorem dX10_signsRead_69 : decode cX10_signsRead 69 = .ok (.iload_n 2, 1) := by decide +kernel
theorem dX10_signsRead_70 : decode cX10_signsRead 70 = .ok (.imul, 1) := by decide +kernel
theorem dX10_signsRead_71 : decode cX10_signsRead 71 = .ok (.if_icmp .ge 44, 3) := by decide +kernel
theorem dX10_signsRead_74 : decode cX10_signsRead 74 = .ok (.aload_n 0, 1) := by decide +kernel
theorem dX10_signsRead_75 : decode cX10_signsRead 75 = .ok (.getfield 69, 3) := by decide +kernel
theorem dX10_signsRead_78 : decode cX10_signsRead 78 = .ok (.ifCond .ne 37, 3) := by decide +kernel
theorem dX10_signsRead_81 : decode cX10_signsRead 81 = .ok (.aload_n 0, 1) := by decide +kernel
theorem dX10_signsRead_82 : decode cX10_signsRead 82 = .ok (.getfield 7, 3) := by decide +kernel
theorem dX10_signsRead_85 : decode cX10_signsRead 85 = .ok (.sipush 183, 3) := by decide +kernel
theorem dX10_signsRead_88 : decode cX10_signsRead 88 = .ok (.iload_n 3, 1) := by decide +kernel
theorem dX10_signsRead_89 : decode cX10_signsRead 89 = .ok (.iadd, 1) := by decide +kernel
theorem dX10_signsRead_90 : decode cX10_signsRead 90 = .ok (.iload 4, 2) := by decide +kernel
theorem dX10_signsRead_92 : decode cX10_signsRead 92 = .ok (.iadd, 1) := by decide +kernel
theorem dX10_signsRead_93 : decode cX10_signsRead 93 = .ok (.aload_n 0, 1) := by decide +kernel
theorem dX10_signsRead_94 : decode cX10_signsRead 94 = .ok (.aload_n 0, 1) := by decide +kernel
theorem dX10_signsRead_95 : decode cX10_signsRead 95 = .ok (.getfield 72, 3) := by decide +kernel
theorem dX10_signsRead_98 : decode cX10_signsRead 98 = .ok (.iconst 1, 1) := by decide +kernel
theorem dX10_signsRead_99 : decode cX10_signsRead 99 = .ok (.iadd, 1) := by decide +kernel
theorem dX10_signsRead_100 : decode cX10_signsRead 100 = .ok (.iload 4, 2) := by decide +kernel
theorem dX10_signsRead_102 : decode cX10_signsRead 102 = .ok (.iload_n 2, 1) := by decide +kernel
theorem dX10_signsRead_103 : decode cX10_signsRead 103 = .ok (.irem, 1) := by decide +kernel
theorem dX10_signsRead_104 : decode cX10_signsRead 104 = .ok (.iadd, 1) := by decide +kernel
theorem dX10_signsRead_105 : decode cX10_signsRead 105 = .ok (.invokevirtual 92, 3) := by decide +kernel
theorem dX10_signsRead_108 : decode cX10_signsRead 108 = .ok (.iastore, 1) := by decide +kernel
theorem dX10_signsRead_109 : decode cX10_signsRead 109 = .ok (.iinc 4 1, 3) := by decide +kernel
theorem dX10_signsRead_112 : decode cX10_signsRead 112 = .ok (.goto (-46), 3) := by decide +kernel
theorem dX10_signsRead_115 : decode cX10_signsRead 115 = .ok (.aload_n 0, 1) := by decide +kernel
theorem dX10_signsRead_116 : decode cX10_signsRead 116 = .ok (.getfield 69, 3) := by decide +kernel
theorem dX10_signsRead_119 : decode cX10_signsRead 119 = .ok (.ifCond .ne 16, 3) := by decide +kernel
theorem dX10_signsRead_122 : decode cX10_signsRead 122 = .ok (.aload_n 0, 1) := by decide +kernel
theorem dX10_signsRead_123 : decode cX10_signsRead 123 = .ok (.getfield 7, 3) := by decide +kernel
theorem dX10_signsRead_126 : decode cX10_signsRead 126 = .ok (.sipush 243, 3) := by decide +kernel
theorem dX10_signsRead_129 : decode cX10_signsRead 129 = .ok (.iload_n 3, 1) := by decide +kernel
theorem dX10_signsRead_130 : decode cX10_signsRead 130 = .ok (.iload_n 1, 1) := by decide +kernel
theorem dX10_signsRead_131 : decode cX10_signsRead 131 = .ok (.iload_n 2, 1) := by decide +kernel
theorem dX10_signsRead_132 : decode cX10_signsRead 132 = .ok (.imul, 1) := by decide +kernel
theorem dX10_signsRead_133 : decode cX10_signsRead 133 = .ok (.iadd, 1) := by decide +kernel
theorem dX10_signsRead_134 : decode cX10_signsRead 134 = .ok (.iastore, 1) := by decide +kernel
theorem dX10_signsRead_135 : decode cX10_signsRead 135 = .ok (.aload_n 0, 1) := by decide +kernel
theorem dX10_signsRead_136 : decode cX10_signsRead 136 = .ok (.invokevirtual 125, 3) := by decide +kernel
theorem dX10_signsRead_139 : decode cX10_signsRead 139 = .ok (.return_, 1) := by decide +kernel
theorem dX10_readLine_0 : decode cX10_readLine 0 = .ok (.aload_n 0, 1) := by decide +kernel
theorem dX10_readLine_1 : decode cX10_readLine 1 = .ok (.invokevirtual 128, 3) := by decide +kernel
theorem dX10_readLine_4 : decode cX10_readLine 4 = .ok (.istore_n 1, 1) := by decide +kernel
theorem dX10_readLine_5 : decode cX10_readLine 5 = .ok (.iload_n 1, 1) := by decide +kernel
theorem dX10_readLine_6 : decode cX10_readLine 6 = .ok (.bipush (-4), 2) := by decide +kernel
theorem dX10_readLine_8 : decode cX10_readLine 8 = .ok (.if_icmp .ne 9, 3) := by decide +kernel
theorem dX10_readLine_11 : decode cX10_readLine 11 = .ok (.aload_n 0, 1) := by decide +kernel
theorem dX10_readLine_12 : decode cX10_readLine 12 = .ok (.iconst 2, 1) := by decide +kernel
theorem dX10_readLine_13 : decode cX10_readLine 13 = .ok (.invokevirtual 105, 3) := by decide +kernel
theorem dX10_readLine_16 : decode cX10_readLine 16 = .ok (.return_, 1) := by decide +kernel
theorem dX10_readLine_17 : decode cX10_readLine 17 = .ok (.aload_n 0, 1) := by decide +kernel
theorem dX10_readLine_18 : decode cX10_readLine 18 = .ok (.invokevirtual 125, 3) := by decide +kernel
theorem dX10_readLine_21 : decode cX10_readLine 21 = .ok (.iload_n 1, 1) := by decide +kernel
theorem dX10_readLine_22 : decode cX10_readLine 22 = .ok (.ifCond .ne 11, 3) := by decide +kernel
theorem dX10_readLine_25 : decode cX10_readLine 25 = .ok (.aload_n 0, 1) := by decide +kernel
theorem dX10_readLine_26 : decode cX10_readLine 26 = .ok (.iconst 1, 1) := by decide +kernel
theorem dX10_readLine_27 : decode cX10_readLine 27 = .ok (.invokevirtual 132, 3) := by decide +kernel
theorem dX10_readLine_30 : decode cX10_readLine 30 = .ok (.goto 48, 3) := by decide +kernel
theorem dX10_readLine_33 : decode cX10_readLine 33 = .ok (.iload_n 1, 1) := by decide +kernel
theorem dX10_readLine_34 : decode cX10_readLine 34 = .ok (.iconst 1, 1) := by decide +kernel
theorem dX10_readLine_35 : decode cX10_readLine 35 = .ok (.if_icmp .ne 17, 3) := by decide +kernel
theorem dX10_readLine_38 : decode cX10_readLine 38 = .ok (.aload_n 0, 1) := by decide +kernel
theorem dX10_readLine_39 : decode cX10_readLine 39 = .ok (.aload_n 0, 1) := by decide +kernel
theorem dX10_readLine_40 : decode cX10_readLine 40 = .ok (.iconst 1, 1) := by decide +kernel
theorem dX10_readLine_41 : decode cX10_readLine 41 = .ok (.bipush 9, 2) := by decide +kernel
theorem dX10_readLine_43 : decode cX10_readLine 43 = .ok (.invokevirtual 135, 3) := by decide +kernel
theorem dX10_readLine_46 : decode cX10_readLine 46 = .ok (.invokevirtual 132, 3) := by decide +kernel
theorem dX10_readLine_49 : decode cX10_readLine 49 = .ok (.goto 29, 3) := by decide +kernel
theorem dX10_readLine_52 : decode cX10_readLine 52 = .ok (.aload_n 0, 1) := by decide +kernel
theorem dX10_readLine_53 : decode cX10_readLine 53 = .ok (.iconst 0, 1) := by decide +kernel
theorem dX10_readLine_54 : decode cX10_readLine 54 = .ok (.bipush 59, 2) := by decide +kernel
theorem dX10_readLine_56 : decode cX10_readLine 56 = .ok (.invokevirtual 135, 3) := by decide +kernel
theorem dX10_readLine_59 : decode cX10_readLine 59 = .ok (.istore_n 2, 1) := by decide +kernel
theorem dX10_readLine_60 : decode cX10_readLine 60 = .ok (.aload_n 0, 1) := by decide +kernel
theorem dX10_readLine_61 : decode cX10_readLine 61 = .ok (.getfield 25, 3) := by decide +kernel
theorem dX10_readLine_64 : decode cX10_readLine 64 = .ok (.iload_n 2, 1) := by decide +kernel
theorem dX10_readLine_65 : decode cX10_readLine 65 = .ok (.aload_n 0, 1) := by decide +kernel
theorem dX10_readLine_66 : decode cX10_readLine 66 = .ok (.getfield 69, 3) := by decide +kernel
theorem dX10_readLine_69 : decode cX10_readLine 69 = .ok (.ifCond .ne 7, 3) := by decide +kernel
theorem dX10_readLine_72 : decode cX10_readLine 72 = .ok (.iconst 1, 1) := by decide +kernel
theorem dX10_readLine_73 : decode cX10_readLine 73 = .ok (.goto 4, 3) := by decide +kernel
theorem dX10_readLine_76 : decode cX10_readLine 76 = .ok (.iconst 0, 1) := by decide +kernel
theorem dX10_readLine_77 : decode cX10_readLine 77 = .ok (.iastore, 1) := by decide +kernel
theorem dX10_readLine_78 : decode cX10_readLine 78 = .ok (.aload_n 0, 1) := by decide +kernel
theorem dX10_readLine_79 : decode cX10_readLine 79 = .ok (.getfield 69, 3) := by decide +kernel
theorem dX10_readLine_82 : decode cX10_readLine 82 = .ok (.ifCond .ne 16, 3) := by decide +kernel
theorem dX10_readLine_85 : decode cX10_readLine 85 = .ok (.aload_n 0, 1) := by decide +kernel
theorem dX10_readLine_86 : decode cX10_readLine 86 = .ok (.getfield 86, 3) := by decide +kernel
theorem dX10_readLine_89 : decode cX10_readLine 89 = .ok (.iconst 3, 1) := by decide +kernel
theorem dX10_readLine_90 : decode cX10_readLine 90 = .ok (.if_icmp .eq 8, 3) := by decide +kernel
theorem dX10_readLine_93 : decode cX10_readLine 93 = .ok (.aload_n 0, 1) := by decide +kernel
theorem dX10_readLine_94 : decode cX10_readLine 94 = .ok (.iconst 2, 1) := by decide +kernel
theorem dX10_readLine_95 : decode cX10_readLine 95 = .ok (.invokevirtual 105, 3) := by decide +kernel
theorem dX10_readLine_98 : decode cX10_readLine 98 = .ok (.aload_n 0, 1) := by decide +kernel
theorem dX10_readLine_99 : decode cX10_readLine 99 = .ok (.getfield 69, 3) := by decide +kernel
theorem dX10_readLine_102 : decode cX10_readLine 102 = .ok (.ifCond .ne 18, 3) := by decide +kernel
theorem dX10_readLine_105 : decode cX10_readLine 105 = .ok (.aload_n 0, 1) := by decide +kernel
theorem dX10_readLine_106 : decode cX10_readLine 106 = .ok (.dup, 1) := by decide +kernel
theorem dX10_readLine_107 : decode cX10_readLine 107 = .ok (.getfield 139, 3) := by decide +kernel
theorem dX10_readLine_110 : decode cX10_readLine 110 = .ok (.iconst 1, 1) := by decide +kernel
theorem dX10_readLine_111 : decode cX10_readLine 111 = .ok (.iadd, 1) := by decide +kernel
theorem dX10_readLine_112 : decode cX10_readLine 112 = .ok (.putfield 139, 3) := by decide +kernel
theorem dX10_readLine_115 : decode cX10_readLine 115 = .ok (.aload_n 0, 1) := by decide +kernel
theorem dX10_readLine_116 : decode cX10_readLine 116 = .ok (.iconst 0, 1) := by decide +kernel
theorem dX10_readLine_117 : decode cX10_readLine 117 = .ok (.putfield 119, 3) := by decide +kernel
theorem dX10_readLine_120 : decode cX10_readLine 120 = .ok (.aload_n 0, 1) := by decide +kernel
theorem dX10_readLine_121 : decode cX10_readLine 121 = .ok (.invokevirtual 122, 3) := by decide +kernel
theorem dX10_readLine_124 : decode cX10_readLine 124 = .ok (.return_, 1) := by decide +kernel
theorem dX10_isWhole_0 : decode cX10_isWhole 0 = .ok (.iconst 1, 1) := by decide +kernel
theorem dX10_isWhole_1 : decode cX10_isWhole 1 = .ok (.istore_n 1, 1) := by decide +kernel
theorem dX10_isWhole_2 : decode cX10_isWhole 2 = .ok (.iconst 0, 1) := by decide +kernel
theorem dX10_isWhole_3 : decode cX10_isWhole 3 = .ok (.istore_n 2, 1) := by decide +kernel
theorem dX10_isWhole_4 : decode cX10_isWhole 4 = .ok (.iload_n 2, 1) := by decide +kernel
theorem dX10_isWhole_5 : decode cX10_isWhole 5 = .ok (.bipush 60, 2) := by decide +kernel
theorem dX10_isWhole_7 : decode cX10_isWhole 7 = .ok (.if_icmp .ge 96, 3) := by decide +kernel
theorem dX10_isWhole_10 : decode cX10_isWhole 10 = .ok (.iload_n 2, 1) := by decide +kernel
theorem dX10_isWhole_11 : decode cX10_isWhole 11 = .ok (.aload_n 0, 1) := by decide +kernel
theorem dX10_isWhole_12 : decode cX10_isWhole 12 = .ok (.getfield 7, 3) := by decide +kernel
theorem dX10_isWhole_15 : decode cX10_isWhole 15 = .ok (.sipush 243, 3) := by decide +kernel
theorem dX10_isWhole_18 : decode cX10_isWhole 18 = .ok (.iaload, 1) := by decide +kernel
theorem dX10_isWhole_19 : decode cX10_isWhole 19 = .ok (.if_icmp .ge 23, 3) := by decide +kernel
theorem dX10_isWhole_22 : decode cX10_isWhole 22 = .ok (.aload_n 0, 1) := by decide +kernel
theorem dX10_isWhole_23 : decode cX10_isWhole 23 = .ok (.getfield 7, 3) := by decide +kernel
theorem dX10_isWhole_26 : decode cX10_isWhole 26 = .ok (.sipush 183, 3) := by decide +kernel
theorem dX10_isWhole_29 : decode cX10_isWhole 29 = .ok (.iload_n 2, 1) := by decide +kernel
theorem dX10_isWhole_30 : decode cX10_isWhole 30 = .ok (.iadd, 1) := by decide +kernel
theorem dX10_isWhole_31 : decode cX10_isWhole 31 = .ok (.iaload, 1) := by decide +kernel
theorem dX10_isWhole_32 : decode cX10_isWhole 32 = .ok (.invokestatic 142, 3) := by decide +kernel
theorem dX10_isWhole_35 : decode cX10_isWhole 35 = .ok (.ifCond .eq 7, 3) := by decide +kernel
theorem dX10_isWhole_38 : decode cX10_isWhole 38 = .ok (.iconst 1, 1) := by decide +kernel
theorem dX10_isWhole_39 : decode cX10_isWhole 39 = .ok (.goto 4, 3) := by decide +kernel
theorem dX10_isWhole_42 : decode cX10_isWhole 42 = .ok (.iconst 0, 1) := by decide +kernel
theorem dX10_isWhole_43 : decode cX10_isWhole 43 = .ok (.istore_n 3, 1) := by decide +kernel
theorem dX10_isWhole_44 : decode cX10_isWhole 44 = .ok (.iload_n 1, 1) := by decide +kernel
theorem dX10_isWhole_45 : decode cX10_isWhole 45 = .ok (.ifCond .eq 20, 3) := by decide +kernel
theorem dX10_isWhole_48 : decode cX10_isWhole 48 = .ok (.aload_n 0, 1) := by decide +kernel
theorem dX10_isWhole_49 : decode cX10_isWhole 49 = .ok (.getfield 25, 3) := by decide +kernel
theorem dX10_isWhole_52 : decode cX10_isWhole 52 = .ok (.iload_n 2, 1) := by decide +kernel
theorem dX10_isWhole_53 : decode cX10_isWhole 53 = .ok (.iaload, 1) := by decide +kernel
theorem dX10_isWhole_54 : decode cX10_isWhole 54 = .ok (.ifCond .eq 7, 3) := by decide +kernel
theorem dX10_isWhole_57 : decode cX10_isWhole 57 = .ok (.iload_n 3, 1) := by decide +kernel
theorem dX10_isWhole_58 : decode cX10_isWhole 58 = .ok (.ifCond .eq 7, 3) := by decide +kernel
theorem dX10_isWhole_61 : decode cX10_isWhole 61 = .ok (.iconst 1, 1) := by decide +kernel
theorem dX10_isWhole_62 : decode cX10_isWhole 62 = .ok (.goto 4, 3) := by decide +kernel
theorem dX10_isWhole_65 : decode cX10_isWhole 65 = .ok (.iconst 0, 1) := by decide +kernel
theorem dX10_isWhole_66 : decode cX10_isWhole 66 = .ok (.istore_n 1, 1) := by decide +kernel
theorem dX10_isWhole_67 : decode cX10_isWhole 67 = .ok (.aload_n 0, 1) := by decide +kernel
theorem dX10_isWhole_68 : decode cX10_isWhole 68 = .ok (.getfield 7, 3) := by decide +kernel
theorem dX10_isWhole_71 : decode cX10_isWhole 71 = .ok (.sipush 183, 3) := by decide +kernel
theorem dX10_isWhole_74 : decode cX10_isWhole 74 = .ok (.iload_n 2, 1) := by decide +kernel
theorem dX10_isWhole_75 : decode cX10_isWhole 75 = .ok (.iadd, 1) := by decide +kernel
theorem dX10_isWhole_76 : decode cX10_isWhole 76 = .ok (.dup2, 1) := by decide +kernel
theorem dX10_isWhole_77 : decode cX10_isWhole 77 = .ok (.iaload, 1) := by decide +kernel
theorem dX10_isWhole_78 : decode cX10_isWhole 78 = .ok (.aload_n 0, 1) := by decide +kernel
theorem dX10_isWhole_79 : decode cX10_isWhole 79 = .ok (.getfield 25, 3) := by decide +kernel
theorem dX10_isWhole_82 : decode cX10_isWhole 82 = .ok (.iload_n 2, 1) := by decide +kernel
theorem dX10_isWhole_83 : decode cX10_isWhole 83 = .ok (.iaload, 1) := by decide +kernel
theorem dX10_isWhole_84 : decode cX10_isWhole 84 = .ok (.iconst 1, 1) := by decide +kernel
theorem dX10_isWhole_85 : decode cX10_isWhole 85 = .ok (.if_icmp .ne 9, 3) := by decide +kernel
theorem dX10_isWhole_88 : decode cX10_isWhole 88 = .ok (.sipush 128, 3) := by decide +kernel
theorem dX10_isWhole_91 : decode cX10_isWhole 91 = .ok (.goto 4, 3) := by decide +kernel
theorem dX10_isWhole_94 : decode cX10_isWhole 94 = .ok (.iconst 0, 1) := by decide +kernel
theorem dX10_isWhole_95 : decode cX10_isWhole 95 = .ok (.iadd, 1) := by decide +kernel
theorem dX10_isWhole_96 : decode cX10_isWhole 96 = .ok (.iastore, 1) := by decide +kernel
theorem dX10_isWhole_97 : decode cX10_isWhole 97 = .ok (.iinc 2 1, 3) := by decide +kernel
theorem dX10_isWhole_100 : decode cX10_isWhole 100 = .ok (.goto (-96), 3) := by decide +kernel
theorem dX10_isWhole_103 : decode cX10_isWhole 103 = .ok (.iload_n 1, 1) := by decide +kernel
theorem dX10_isWhole_104 : decode cX10_isWhole 104 = .ok (.ireturn, 1) := by decide +kernel
theorem dX10_text_0 : decode cX10_text 0 = .ok (.aload_n 0, 1) := by decide +kernel
theorem dX10_text_1 : decode cX10_text 1 = .ok (.iconst 0, 1) := by decide +kernel
theorem dX10_text_2 : decode cX10_text 2 = .ok (.putfield 69, 3) := by decide +kernel
theorem dX10_text_5 : decode cX10_text 5 = .ok (.aload_n 0, 1) := by decide +kernel
theorem dX10_text_6 : decode cX10_text 6 = .ok (.iconst 0, 1) := by decide +kernel
theorem dX10_text_7 : decode cX10_text 7 = .ok (.putfield 89, 3) := by decide +kernel
theorem dX10_text_10 : decode cX10_text 10 = .ok (.aload_n 0, 1) := by decide +kernel
theorem dX10_text_11 : decode cX10_text 11 = .ok (.iconst 0, 1) := by decide +kernel
theorem dX10_text_12 : decode cX10_text 12 = .ok (.putfield 139, 3) := by decide +kernel
theorem dX10_text_15 : decode cX10_text 15 = .ok (.aload_n 0, 1) := by decide +kernel
theorem dX10_text_16 : decode cX10_text 16 = .ok (.iconst 0, 1) := by decide +kernel
theorem dX10_text_17 : decode cX10_text 17 = .ok (.putfield 119, 3) := by decide +kernel
theorem dX10_text_20 : decode cX10_text 20 = .ok (.iconst 0, 1) := by decide +kernel
theorem dX10_text_21 : decode cX10_text 21 = .ok (.istore_n 1, 1) := by decide +kernel
theorem dX10_text_22 : decode cX10_text 22 = .ok (.iload_n 1, 1) := by decide +kernel
theorem dX10_text_23 : decode cX10_text 23 = .ok (.bipush 61, 2) := by decide +kernel
theorem dX10_text_25 : decode cX10_text 25 = .ok (.if_icmp .ge 20, 3) := by decide +kernel
theorem dX10_text_28 : decode cX10_text 28 = .ok (.aload_n 0, 1) := by decide +kernel
theorem dX10_text_29 : decode cX10_text 29 = .ok (.getfield 7, 3) := by decide +kernel
theorem dX10_text_32 : decode cX10_text 32 = .ok (.sipush 183, 3) := by decide +kernel
theorem dX10_text_35 : decode cX10_text 35 = .ok (.iload_n 1, 1) := by decide +kernel
theorem dX10_text_36 : decode cX10_text 36 = .ok (.iadd, 1) := by decide +kernel
theorem dX10_text_37 : decode cX10_text 37 = .ok (.iconst 0, 1) := by decide +kernel
theorem dX10_text_38 : decode cX10_text 38 = .ok (.iastore, 1) := by decide +kernel
theorem dX10_text_39 : decode cX10_text 39 = .ok (.iinc 1 1, 3) := by decide +kernel
theorem dX10_text_42 : decode cX10_text 42 = .ok (.goto (-20), 3) := by decide +kernel
theorem dX10_text_45 : decode cX10_text 45 = .ok (.iconst 0, 1) := by decide +kernel
theorem dX10_text_46 : decode cX10_text 46 = .ok (.istore_n 1, 1) := by decide +kernel
theorem dX10_text_47 : decode cX10_text 47 = .ok (.iload_n 1, 1) := by decide +kernel
theorem dX10_text_48 : decode cX10_text 48 = .ok (.bipush 60, 2) := by decide +kernel
theorem dX10_text_50 : decode cX10_text 50 = .ok (.if_icmp .ge 16, 3) := by decide +kernel
theorem dX10_text_53 : decode cX10_text 53 = .ok (.aload_n 0, 1) := by decide +kernel
theorem dX10_text_54 : decode cX10_text 54 = .ok (.getfield 25, 3) := by decide +kernel
theorem dX10_text_57 : decode cX10_text 57 = .ok (.iload_n 1, 1) := by decide +kernel
theorem dX10_text_58 : decode cX10_text 58 = .ok (.iconst 0, 1) := by decide +kernel
theorem dX10_text_59 : decode cX10_text 59 = .ok (.iastore, 1) := by decide +kernel
theorem dX10_text_60 : decode cX10_text 60 = .ok (.iinc 1 1, 3) := by decide +kernel
theorem dX10_text_63 : decode cX10_text 63 = .ok (.goto (-16), 3) := by decide +kernel
theorem dX10_text_66 : decode cX10_text 66 = .ok (.aload_n 0, 1) := by decide +kernel
theorem dX10_text_67 : decode cX10_text 67 = .ok (.invokevirtual 122, 3) := by decide +kernel
theorem dX10_text_70 : decode cX10_text 70 = .ok (.aload_n 0, 1) := by decide +kernel
theorem dX10_text_71 : decode cX10_text 71 = .ok (.getfield 69, 3) := by decide +kernel
theorem dX10_text_74 : decode cX10_text 74 = .ok (.ifCond .ne 17, 3) := by decide +kernel
theorem dX10_text_77 : decode cX10_text 77 = .ok (.aload_n 0, 1) := by decide +kernel
theorem dX10_text_78 : decode cX10_text 78 = .ok (.getfield 86, 3) := by decide +kernel
theorem dX10_text_81 : decode cX10_text 81 = .ok (.ifCond .eq 10, 3) := by decide +kernel
theorem dX10_text_84 : decode cX10_text 84 = .ok (.aload_n 0, 1) := by decide +kernel
theorem dX10_text_85 : decode cX10_text 85 = .ok (.invokevirtual 145, 3) := by decide +kernel
theorem dX10_text_88 : decode cX10_text 88 = .ok (.goto (-18), 3) := by decide +kernel
theorem dX10_text_91 : decode cX10_text 91 = .ok (.aload_n 0, 1) := by decide +kernel
theorem dX10_text_92 : decode cX10_text 92 = .ok (.getfield 69, 3) := by decide +kernel
theorem dX10_text_95 : decode cX10_text 95 = .ok (.ifCond .le 7, 3) := by decide +kernel
theorem dX10_text_98 : decode cX10_text 98 = .ok (.iconst 1, 1) := by decide +kernel
theorem dX10_text_99 : decode cX10_text 99 = .ok (.goto 4, 3) := by decide +kernel
theorem dX10_text_102 : decode cX10_text 102 = .ok (.iconst 0, 1) := by decide +kernel
theorem dX10_text_103 : decode cX10_text 103 = .ok (.istore_n 1, 1) := by decide +kernel
theorem dX10_text_104 : decode cX10_text 104 = .ok (.aload_n 0, 1) := by decide +kernel
theorem dX10_text_105 : decode cX10_text 105 = .ok (.getfield 69, 3) := by decide +kernel
theorem dX10_text_108 : decode cX10_text 108 = .ok (.ifCond .ne 16, 3) := by decide +kernel
theorem dX10_text_111 : decode cX10_text 111 = .ok (.aload_n 0, 1) := by decide +kernel
theorem dX10_text_112 : decode cX10_text 112 = .ok (.invokevirtual 148, 3) := by decide +kernel
theorem dX10_text_115 : decode cX10_text 115 = .ok (.ifCond .ne 9, 3) := by decide +kernel
theorem dX10_text_118 : decode cX10_text 118 = .ok (.aload_n 0, 1) := by decide +kernel
theorem dX10_text_119 : decode cX10_text 119 = .ok (.bipush 6, 2) := by decide +kernel
theorem dX10_text_121 : decode cX10_text 121 = .ok (.invokevirtual 105, 3) := by decide +kernel
theorem dX10_text_124 : decode cX10_text 124 = .ok (.aload_n 0, 1) := by decide +kernel
theorem dX10_text_125 : decode cX10_text 125 = .ok (.iconst 0, 1) := by decide +kernel
theorem dX10_text_126 : decode cX10_text 126 = .ok (.putfield 65, 3) := by decide +kernel
theorem dX10_text_129 : decode cX10_text 129 = .ok (.aload_n 0, 1) := by decide +kernel
theorem dX10_text_130 : decode cX10_text 130 = .ok (.aload_n 0, 1) := by decide +kernel
theorem dX10_text_131 : decode cX10_text 131 = .ok (.getfield 69, 3) := by decide +kernel
theorem dX10_text_134 : decode cX10_text 134 = .ok (.putfield 152, 3) := by decide +kernel
theorem dX10_text_137 : decode cX10_text 137 = .ok (.aload_n 0, 1) := by decide +kernel
theorem dX10_text_138 : decode cX10_text 138 = .ok (.getfield 16, 3) := by decide +kernel
theorem dX10_text_141 : decode cX10_text 141 = .ok (.iconst 0, 1) := by decide +kernel
theorem dX10_text_142 : decode cX10_text 142 = .ok (.iload_n 1, 1) := by decide +kernel
theorem dX10_text_143 : decode cX10_text 143 = .ok (.ifCond .eq 10, 3) := by decide +kernel
theorem dX10_text_146 : decode cX10_text 146 = .ok (.aload_n 0, 1) := by decide +kernel
theorem dX10_text_147 : decode cX10_text 147 = .ok (.getfield 139, 3) := by decide +kernel
theorem dX10_text_150 : decode cX10_text 150 = .ok (.goto 5, 3) := by decide +kernel
theorem dX10_text_153 : decode cX10_text 153 = .ok (.bipush (-4), 2) := by decide +kernel
theorem dX10_text_155 : decode cX10_text 155 = .ok (.iastore, 1) := by decide +kernel
theorem dX10_text_156 : decode cX10_text 156 = .ok (.aload_n 0, 1) := by decide +kernel
theorem dX10_text_157 : decode cX10_text 157 = .ok (.getfield 16, 3) := by decide +kernel
theorem dX10_text_160 : decode cX10_text 160 = .ok (.iconst 1, 1) := by decide +kernel
theorem dX10_text_161 : decode cX10_text 161 = .ok (.iload_n 1, 1) := by decide +kernel
theorem dX10_text_162 : decode cX10_text 162 = .ok (.ifCond .eq 10, 3) := by decide +kernel
theorem dX10_text_165 : decode cX10_text 165 = .ok (.aload_n 0, 1) := by decide +kernel
theorem dX10_text_166 : decode cX10_text 166 = .ok (.getfield 119, 3) := by decide +kernel
theorem dX10_text_169 : decode cX10_text 169 = .ok (.goto 5, 3) := by decide +kernel
theorem dX10_text_172 : decode cX10_text 172 = .ok (.bipush (-4), 2) := by decide +kernel
theorem dX10_text_174 : decode cX10_text 174 = .ok (.iastore, 1) := by decide +kernel
theorem dX10_text_175 : decode cX10_text 175 = .ok (.aload_n 0, 1) := by decide +kernel
theorem dX10_text_176 : decode cX10_text 176 = .ok (.getfield 16, 3) := by decide +kernel
theorem dX10_text_179 : decode cX10_text 179 = .ok (.iconst 2, 1) := by decide +kernel
theorem dX10_text_180 : decode cX10_text 180 = .ok (.iload_n 1, 1) := by decide +kernel
theorem dX10_text_181 : decode cX10_text 181 = .ok (.ifCond .eq 10, 3) := by decide +kernel
theorem dX10_text_184 : decode cX10_text 184 = .ok (.aload_n 0, 1) := by decide +kernel
theorem dX10_text_185 : decode cX10_text 185 = .ok (.getfield 102, 3) := by decide +kernel
theorem dX10_text_188 : decode cX10_text 188 = .ok (.goto 5, 3) := by decide +kernel
theorem dX10_text_191 : decode cX10_text 191 = .ok (.bipush (-4), 2) := by decide +kernel
theorem dX10_text_193 : decode cX10_text 193 = .ok (.iastore, 1) := by decide +kernel
theorem dX10_text_194 : decode cX10_text 194 = .ok (.aload_n 0, 1) := by decide +kernel
theorem dX10_text_195 : decode cX10_text 195 = .ok (.getfield 69, 3) := by decide +kernel
theorem dX10_text_198 : decode cX10_text 198 = .ok (.ifCond .le 11, 3) := by decide +kernel
theorem dX10_text_201 : decode cX10_text 201 = .ok (.bipush (-10), 2) := by decide +kernel
theorem dX10_text_203 : decode cX10_text 203 = .ok (.aload_n 0, 1) := by decide +kernel
theorem dX10_text_204 : decode cX10_text 204 = .ok (.getfield 75, 3) := by decide +kernel
theorem dX10_text_207 : decode cX10_text 207 = .ok (.isub, 1) := by decide +kernel
theorem dX10_text_208 : decode cX10_text 208 = .ok (.ireturn, 1) := by decide +kernel
theorem dX10_text_209 : decode cX10_text 209 = .ok (.aload_n 0, 1) := by decide +kernel
theorem dX10_text_210 : decode cX10_text 210 = .ok (.sipush 183, 3) := by decide +kernel
theorem dX10_text_213 : decode cX10_text 213 = .ok (.iconst 0, 1) := by decide +kernel
theorem dX10_text_214 : decode cX10_text 214 = .ok (.invokevirtual 155, 3) := by decide +kernel
theorem dX10_text_217 : decode cX10_text 217 = .ok (.aload_n 0, 1) := by decide +kernel
theorem dX10_text_218 : decode cX10_text 218 = .ok (.iconst 0, 1) := by decide +kernel
theorem dX10_text_219 : decode cX10_text 219 = .ok (.putfield 159, 3) := by decide +kernel
theorem dX10_text_222 : decode cX10_text 222 = .ok (.aload_n 0, 1) := by decide +kernel
theorem dX10_text_223 : decode cX10_text 223 = .ok (.iconst 0, 1) := by decide +kernel
theorem dX10_text_224 : decode cX10_text 224 = .ok (.putfield 162, 3) := by decide +kernel
theorem dX10_text_227 : decode cX10_text 227 = .ok (.aload_n 0, 1) := by decide +kernel
theorem dX10_text_228 : decode cX10_text 228 = .ok (.getfield 46, 3) := by decide +kernel
theorem dX10_text_231 : decode cX10_text 231 = .ok (.iconst 0, 1) := by decide +kernel
theorem dX10_text_232 : decode cX10_text 232 = .ok (.iconst 0, 1) := by decide +kernel
theorem dX10_text_233 : decode cX10_text 233 = .ok (.bastore, 1) := by decide +kernel
theorem dX10_text_234 : decode cX10_text 234 = .ok (.aload_n 0, 1) := by decide +kernel
theorem dX10_text_235 : decode cX10_text 235 = .ok (.getfield 46, 3) := by decide +kernel
theorem dX10_text_238 : decode cX10_text 238 = .ok (.iconst 1, 1) := by decide +kernel
theorem dX10_text_239 : decode cX10_text 239 = .ok (.iconst 0, 1) := by decide +kernel
theorem dX10_text_240 : decode cX10_text 240 = .ok (.bastore, 1) := by decide +kernel
theorem dX10_text_241 : decode cX10_text 241 = .ok (.aload_n 0, 1) := by decide +kernel
theorem dX10_text_242 : decode cX10_text 242 = .ok (.invokevirtual 165, 3) := by decide +kernel
theorem dX10_text_245 : decode cX10_text 245 = .ok (.ireturn, 1) := by decide +kernel
theorem dX10_fault_0 : decode cX10_fault 0 = .ok (.aload_n 0, 1) := by decide +kernel
theorem dX10_fault_1 : decode cX10_fault 1 = .ok (.getfield 152, 3) := by decide +kernel
theorem dX10_fault_4 : decode cX10_fault 4 = .ok (.ireturn, 1) := by decide +kernel
theorem dX10_reason_0 : decode cX10_reason 0 = .ok (.iload_n 1, 1) := by decide +kernel
theorem dX10_reason_1 : decode cX10_reason 1 = .ok (.i2l, 1) := by decide +kernel
theorem dX10_reason_2 : decode cX10_reason 2 = .ok (.lconst 0, 1) := by decide +kernel
theorem dX10_reason_3 : decode cX10_reason 3 = .ok (.ldc2_w 168, 3) := by decide +kernel
theorem dX10_reason_6 : decode cX10_reason 6 = .ok (.invokestatic 61, 3) := by decide +kernel
theorem dX10_reason_9 : decode cX10_reason 9 = .ok (.ifCond .eq 12, 3) := by decide +kernel
theorem dX10_reason_12 : decode cX10_reason 12 = .ok (.aload_n 0, 1) := by decide +kernel
theorem dX10_reason_13 : decode cX10_reason 13 = .ok (.getfield 16, 3) := by decide +kernel
theorem dX10_reason_16 : decode cX10_reason 16 = .ok (.iload_n 1, 1) := by decide +kernel
theorem dX10_reason_17 : decode cX10_reason 17 = .ok (.iaload, 1) := by decide +kernel
theorem dX10_reason_18 : decode cX10_reason 18 = .ok (.goto 4, 3) := by decide +kernel
theorem dX10_reason_21 : decode cX10_reason 21 = .ok (.iconst (-1), 1) := by decide +kernel
theorem dX10_reason_22 : decode cX10_reason 22 = .ok (.ireturn, 1) := by decide +kernel
theorem dX10_copies_0 : decode cX10_copies 0 = .ok (.iconst 0, 1) := by decide +kernel
theorem dX10_copies_1 : decode cX10_copies 1 = .ok (.istore_n 3, 1) := by decide +kernel
theorem dX10_copies_2 : decode cX10_copies 2 = .ok (.iload_n 3, 1) := by decide +kernel
theorem dX10_copies_3 : decode cX10_copies 3 = .ok (.bipush 61, 2) := by decide +kernel
theorem dX10_copies_5 : decode cX10_copies 5 = .ok (.if_icmp .ge 25, 3) := by decide +kernel
theorem dX10_copies_8 : decode cX10_copies 8 = .ok (.aload_n 0, 1) := by decide +kernel
theorem dX10_copies_9 : decode cX10_copies 9 = .ok (.getfield 7, 3) := by decide +kernel
theorem dX10_copies_12 : decode cX10_copies 12 = .ok (.iload_n 2, 1) := by decide +kernel
theorem dX10_copies_13 : decode cX10_copies 13 = .ok (.iload_n 3, 1) := by decide +kernel
theorem dX10_copies_14 : decode cX10_copies 14 = .ok (.iadd, 1) := by decide +kernel
theorem dX10_copies_15 : decode cX10_copies 15 = .ok (.aload_n 0, 1) := by decide +kernel
theorem dX10_copies_16 : decode cX10_copies 16 = .ok (.getfield 7, 3) := by decide +kernel
theorem dX10_copies_19 : decode cX10_copies 19 = .ok (.iload_n 1, 1) := by decide +kernel
theorem dX10_copies_20 : decode cX10_copies 20 = .ok (.iload_n 3, 1) := by decide +kernel
theorem dX10_copies_21 : decode cX10_copies 21 = .ok (.iadd, 1) := by decide +kernel
theorem dX10_copies_22 : decode cX10_copies 22 = .ok (.iaload, 1) := by decide +kernel
theorem dX10_copies_23 : decode cX10_copies 23 = .ok (.iastore, 1) := by decide +kernel
theorem dX10_copies_24 : decode cX10_copies 24 = .ok (.iinc 3 1, 3) := by decide +kernel
theorem dX10_copies_27 : decode cX10_copies 27 = .ok (.goto (-25), 3) := by decide +kernel
theorem dX10_copies_30 : decode cX10_copies 30 = .ok (.return_, 1) := by decide +kernel
theorem dX10_many_0 : decode cX10_many 0 = .ok (.aload_n 0, 1) := by decide +kernel
theorem dX10_many_1 : decode cX10_many 1 = .ok (.getfield 7, 3) := by decide +kernel
theorem dX10_many_4 : decode cX10_many 4 = .ok (.bipush 60, 2) := by decide +kernel
theorem dX10_many_6 : decode cX10_many 6 = .ok (.iaload, 1) := by decide +kernel
theorem dX10_many_7 : decode cX10_many 7 = .ok (.ireturn, 1) := by decide +kernel
theorem dX10_signAt_0 : decode cX10_signAt 0 = .ok (.aload_n 0, 1) := by decide +kernel
theorem dX10_signAt_1 : decode cX10_signAt 1 = .ok (.getfield 7, 3) := by decide +kernel
theorem dX10_signAt_4 : decode cX10_signAt 4 = .ok (.iload_n 1, 1) := by decide +kernel
theorem dX10_signAt_5 : decode cX10_signAt 5 = .ok (.iaload, 1) := by decide +kernel
theorem dX10_signAt_6 : decode cX10_signAt 6 = .ok (.sipush 128, 3) := by decide +kernel
theorem dX10_signAt_9 : decode cX10_signAt 9 = .ok (.irem, 1) := by decide +kernel
theorem dX10_signAt_10 : decode cX10_signAt 10 = .ok (.ireturn, 1) := by decide +kernel
theorem dX10_isMarked_0 : decode cX10_isMarked 0 = .ok (.aload_n 0, 1) := by decide +kernel
theorem dX10_isMarked_1 : decode cX10_isMarked 1 = .ok (.getfield 7, 3) := by decide +kernel
theorem dX10_isMarked_4 : decode cX10_isMarked 4 = .ok (.iload_n 1, 1) := by decide +kernel
theorem dX10_isMarked_5 : decode cX10_isMarked 5 = .ok (.iaload, 1) := by decide +kernel
theorem dX10_isMarked_6 : decode cX10_isMarked 6 = .ok (.sipush 128, 3) := by decide +kernel
theorem dX10_isMarked_9 : decode cX10_isMarked 9 = .ok (.if_icmp .lt 7, 3) := by decide +kernel
theorem dX10_isMarked_12 : decode cX10_isMarked 12 = .ok (.iconst 1, 1) := by decide +kernel
theorem dX10_isMarked_13 : decode cX10_isMarked 13 = .ok (.goto 4, 3) := by decide +kernel
theorem dX10_isMarked_16 : decode cX10_isMarked 16 = .ok (.iconst 0, 1) := by decide +kernel
theorem dX10_isMarked_17 : decode cX10_isMarked 17 = .ok (.ireturn, 1) := by decide +kernel
theorem dX10_finds_0 : decode cX10_finds 0 = .ok (.iconst 0, 1) := by decide +kernel
theorem dX10_finds_1 : decode cX10_finds 1 = .ok (.istore_n 3, 1) := by decide +kernel
theorem dX10_finds_2 : decode cX10_finds 2 = .ok (.iconst 0, 1) := by decide +kernel
theorem dX10_finds_3 : decode cX10_finds 3 = .ok (.istore 4, 2) := by decide +kernel
theorem dX10_finds_5 : decode cX10_finds 5 = .ok (.iload 4, 2) := by decide +kernel
theorem dX10_finds_7 : decode cX10_finds 7 = .ok (.aload_n 0, 1) := by decide +kernel
theorem dX10_finds_8 : decode cX10_finds 8 = .ok (.invokevirtual 165, 3) := by decide +kernel
theorem dX10_finds_11 : decode cX10_finds 11 = .ok (.if_icmp .ge 134, 3) := by decide +kernel
theorem dX10_finds_14 : decode cX10_finds 14 = .ok (.aload_n 0, 1) := by decide +kernel
theorem dX10_finds_15 : decode cX10_finds 15 = .ok (.iload 4, 2) := by decide +kernel
theorem dX10_finds_17 : decode cX10_finds 17 = .ok (.invokevirtual 170, 3) := by decide +kernel
theorem dX10_finds_20 : decode cX10_finds 20 = .ok (.istore 5, 2) := by decide +kernel
theorem dX10_finds_22 : decode cX10_finds 22 = .ok (.iload 5, 2) := by decide +kernel
theorem dX10_finds_24 : decode cX10_finds 24 = .ok (.invokestatic 78, 3) := by decide +kernel
theorem dX10_finds_27 : decode cX10_finds 27 = .ok (.bipush (-4), 2) := by decide +kernel
theorem dX10_finds_29 : decode cX10_finds 29 = .ok (.if_icmp .eq 21, 3) := by decide +kernel
theorem dX10_finds_32 : decode cX10_finds 32 = .ok (.iload_n 1, 1) := by decide +kernel
theorem dX10_finds_33 : decode cX10_finds 33 = .ok (.iconst 3, 1) := by decide +kernel
theorem dX10_finds_34 : decode cX10_finds 34 = .ok (.if_icmp .eq 12, 3) := by decide +kernel
theorem dX10_finds_37 : decode cX10_finds 37 = .ok (.iload 5, 2) := by decide +kernel
theorem dX10_finds_39 : decode cX10_finds 39 = .ok (.invokestatic 78, 3) := by decide +kernel
theorem dX10_finds_42 : decode cX10_finds 42 = .ok (.iload_n 1, 1) := by decide +kernel
theorem dX10_finds_43 : decode cX10_finds 43 = .ok (.if_icmp .ne 7, 3) := by decide +kernel
theorem dX10_finds_46 : decode cX10_finds 46 = .ok (.iconst 1, 1) := by decide +kernel
theorem dX10_finds_47 : decode cX10_finds 47 = .ok (.goto 4, 3) := by decide +kernel
theorem dX10_finds_50 : decode cX10_finds 50 = .ok (.iconst 0, 1) := by decide +kernel
theorem dX10_finds_51 : decode cX10_finds 51 = .ok (.istore 6, 2) := by decide +kernel
theorem dX10_finds_53 : decode cX10_finds 53 = .ok (.aload_n 2, 1) := by decide +kernel
theorem dX10_finds_54 : decode cX10_finds 54 = .ok (.iload 4, 2) := by decide +kernel
theorem dX10_finds_56 : decode cX10_finds 56 = .ok (.iload 6, 2) := by decide +kernel
theorem dX10_finds_58 : decode cX10_finds 58 = .ok (.ifCond .ne 12, 3) := by decide +kernel
theorem dX10_finds_61 : decode cX10_finds 61 = .ok (.iload_n 1, 1) := by decide +kernel
theorem dX10_finds_62 : decode cX10_finds 62 = .ok (.iconst 3, 1) := by decide +kernel
theorem dX10_finds_63 : decode cX10_finds 63 = .ok (.if_icmp .eq 7, 3) := by decide +kernel
theorem dX10_finds_66 : decode cX10_finds 66 = .ok (.iload_n 1, 1) := by decide +kernel
theorem dX10_finds_67 : decode cX10_finds 67 = .ok (.ifCond .ne 8, 3) := by decide +kernel
theorem dX10_finds_70 : decode cX10_finds 70 = .ok (.bipush (-4), 2) := by decide +kernel
theorem dX10_finds_72 : decode cX10_finds 72 = .ok (.goto 7, 3) := by decide +kernel
theorem dX10_finds_75 : decode cX10_finds 75 = .ok (.aload_n 2, 1) := by decide +kernel
theorem dX10_finds_76 : decode cX10_finds 76 = .ok (.iload 4, 2) := by decide +kernel
theorem dX10_finds_78 : decode cX10_finds 78 = .ok (.iaload, 1) := by decide +kernel
theorem dX10_finds_79 : decode cX10_finds 79 = .ok (.iastore, 1) := by decide +kernel
theorem dX10_finds_80 : decode cX10_finds 80 = .ok (.iload 6, 2) := by decide +kernel
theorem dX10_finds_82 : decode cX10_finds 82 = .ok (.ifCond .eq 25, 3) := by decide +kernel
theorem dX10_finds_85 : decode cX10_finds 85 = .ok (.iload 5, 2) := by decide +kernel
theorem dX10_finds_87 : decode cX10_finds 87 = .ok (.invokestatic 142, 3) := by decide +kernel
theorem dX10_finds_90 : decode cX10_finds 90 = .ok (.ifCond .eq 17, 3) := by decide +kernel
theorem dX10_finds_93 : decode cX10_finds 93 = .ok (.aload_n 0, 1) := by decide +kernel
theorem dX10_finds_94 : decode cX10_finds 94 = .ok (.getfield 34, 3) := by decide +kernel
theorem dX10_finds_97 : decode cX10_finds 97 = .ok (.iload_n 3, 1) := by decide +kernel
theorem dX10_finds_98 : decode cX10_finds 98 = .ok (.iload 4, 2) := by decide +kernel
theorem dX10_finds_100 : decode cX10_finds 100 = .ok (.iastore, 1) := by decide +kernel
theorem dX10_finds_101 : decode cX10_finds 101 = .ok (.iinc 3 1, 3) := by decide +kernel
theorem dX10_finds_104 : decode cX10_finds 104 = .ok (.goto 35, 3) := by decide +kernel
theorem dX10_finds_107 : decode cX10_finds 107 = .ok (.iload 6, 2) := by decide +kernel
theorem dX10_finds_109 : decode cX10_finds 109 = .ok (.ifCond .eq 30, 3) := by decide +kernel
theorem dX10_finds_112 : decode cX10_finds 112 = .ok (.iload_n 3, 1) := by decide +kernel
theorem dX10_finds_113 : decode cX10_finds 113 = .ok (.ifCond .le 26, 3) := by decide +kernel
theorem dX10_finds_116 : decode cX10_finds 116 = .ok (.iinc 3 (-1), 3) := by decide +kernel
theorem dX10_finds_119 : decode cX10_finds 119 = .ok (.aload_n 2, 1) := by decide +kernel
theorem dX10_finds_120 : decode cX10_finds 120 = .ok (.iload 4, 2) := by decide +kernel
theorem dX10_finds_122 : decode cX10_finds 122 = .ok (.aload_n 0, 1) := by decide +kernel
theorem dX10_finds_123 : decode cX10_finds 123 = .ok (.getfield 34, 3) := by decide +kernel
theorem dX10_finds_126 : decode cX10_finds 126 = .ok (.iload_n 3, 1) := by decide +kernel
theorem dX10_finds_127 : decode cX10_finds 127 = .ok (.iaload, 1) := by decide +kernel
theorem dX10_finds_128 : decode cX10_finds 128 = .ok (.iastore, 1) := by decide +kernel
theorem dX10_finds_129 : decode cX10_finds 129 = .ok (.aload_n 2, 1) := by decide +kernel
theorem dX10_finds_130 : decode cX10_finds 130 = .ok (.aload_n 0, 1) := by decide +kernel
theorem dX10_finds_131 : decode cX10_finds 131 = .ok (.getfield 34, 3) := by decide +kernel
theorem dX10_finds_134 : decode cX10_finds 134 = .ok (.iload_n 3, 1) := by decide +kernel
theorem dX10_finds_135 : decode cX10_finds 135 = .ok (.iaload, 1) := by decide +kernel
theorem dX10_finds_136 : decode cX10_finds 136 = .ok (.iload 4, 2) := by decide +kernel
theorem dX10_finds_138 : decode cX10_finds 138 = .ok (.iastore, 1) := by decide +kernel
theorem dX10_finds_139 : decode cX10_finds 139 = .ok (.iinc 4 1, 3) := by decide +kernel
theorem dX10_finds_142 : decode cX10_finds 142 = .ok (.goto (-137), 3) := by decide +kernel
theorem dX10_finds_145 : decode cX10_finds 145 = .ok (.return_, 1) := by decide +kernel
theorem dX10_findsAll_0 : decode cX10_findsAll 0 = .ok (.aload_n 0, 1) := by decide +kernel
theorem dX10_findsAll_1 : decode cX10_findsAll 1 = .ok (.iconst 3, 1) := by decide +kernel
theorem dX10_findsAll_2 : decode cX10_findsAll 2 = .ok (.aload_n 0, 1) := by decide +kernel
theorem dX10_findsAll_3 : decode cX10_findsAll 3 = .ok (.getfield 28, 3) := by decide +kernel
theorem dX10_findsAll_6 : decode cX10_findsAll 6 = .ok (.invokevirtual 173, 3) := by decide +kernel
theorem dX10_findsAll_9 : decode cX10_findsAll 9 = .ok (.iconst 0, 1) := by decide +kernel
theorem dX10_findsAll_10 : decode cX10_findsAll 10 = .ok (.istore_n 1, 1) := by decide +kernel
theorem dX10_findsAll_11 : decode cX10_findsAll 11 = .ok (.iload_n 1, 1) := by decide +kernel
theorem dX10_findsAll_12 : decode cX10_findsAll 12 = .ok (.iconst 3, 1) := by decide +kernel
theorem dX10_findsAll_13 : decode cX10_findsAll 13 = .ok (.if_icmp .ge 18, 3) := by decide +kernel
theorem dX10_findsAll_16 : decode cX10_findsAll 16 = .ok (.aload_n 0, 1) := by decide +kernel
theorem dX10_findsAll_17 : decode cX10_findsAll 17 = .ok (.iload_n 1, 1) := by decide +kernel
theorem dX10_findsAll_18 : decode cX10_findsAll 18 = .ok (.aload_n 0, 1) := by decide +kernel
theorem dX10_findsAll_19 : decode cX10_findsAll 19 = .ok (.getfield 31, 3) := by decide +kernel
theorem dX10_findsAll_22 : decode cX10_findsAll 22 = .ok (.invokevirtual 173, 3) := by decide +kernel
theorem dX10_findsAll_25 : decode cX10_findsAll 25 = .ok (.iinc 1 1, 3) := by decide +kernel
theorem dX10_findsAll_28 : decode cX10_findsAll 28 = .ok (.goto (-17), 3) := by decide +kernel
theorem dX10_findsAll_31 : decode cX10_findsAll 31 = .ok (.return_, 1) := by decide +kernel
theorem dX10_isFirst_0 : decode cX10_isFirst 0 = .ok (.aload_n 0, 1) := by decide +kernel
theorem dX10_isFirst_1 : decode cX10_isFirst 1 = .ok (.getfield 28, 3) := by decide +kernel
theorem dX10_isFirst_4 : decode cX10_isFirst 4 = .ok (.iload_n 1, 1) := by decide +kernel
theorem dX10_isFirst_5 : decode cX10_isFirst 5 = .ok (.iaload, 1) := by decide +kernel
theorem dX10_isFirst_6 : decode cX10_isFirst 6 = .ok (.iload_n 1, 1) := by decide +kernel
theorem dX10_isFirst_7 : decode cX10_isFirst 7 = .ok (.if_icmp .le 7, 3) := by decide +kernel
theorem dX10_isFirst_10 : decode cX10_isFirst 10 = .ok (.iconst 1, 1) := by decide +kernel
theorem dX10_isFirst_11 : decode cX10_isFirst 11 = .ok (.goto 4, 3) := by decide +kernel
theorem dX10_isFirst_14 : decode cX10_isFirst 14 = .ok (.iconst 0, 1) := by decide +kernel
theorem dX10_isFirst_15 : decode cX10_isFirst 15 = .ok (.ireturn, 1) := by decide +kernel
theorem dX10_isBare_0 : decode cX10_isBare 0 = .ok (.aload_n 0, 1) := by decide +kernel
theorem dX10_isBare_1 : decode cX10_isBare 1 = .ok (.iload_n 1, 1) := by decide +kernel
theorem dX10_isBare_2 : decode cX10_isBare 2 = .ok (.invokevirtual 170, 3) := by decide +kernel
theorem dX10_isBare_5 : decode cX10_isBare 5 = .ok (.invokestatic 78, 3) := by decide +kernel
theorem dX10_isBare_8 : decode cX10_isBare 8 = .ok (.bipush (-4), 2) := by decide +kernel
theorem dX10_isBare_10 : decode cX10_isBare 10 = .ok (.if_icmp .eq 18, 3) := by decide +kernel
theorem dX10_isBare_13 : decode cX10_isBare 13 = .ok (.aload_n 0, 1) := by decide +kernel
theorem dX10_isBare_14 : decode cX10_isBare 14 = .ok (.getfield 28, 3) := by decide +kernel
theorem dX10_isBare_17 : decode cX10_isBare 17 = .ok (.iload_n 1, 1) := by decide +kernel
theorem dX10_isBare_18 : decode cX10_isBare 18 = .ok (.iaload, 1) := by decide +kernel
theorem dX10_isBare_19 : decode cX10_isBare 19 = .ok (.bipush (-4), 2) := by decide +kernel
theorem dX10_isBare_21 : decode cX10_isBare 21 = .ok (.if_icmp .ne 7, 3) := by decide +kernel
theorem dX10_isBare_24 : decode cX10_isBare 24 = .ok (.iconst 1, 1) := by decide +kernel
theorem dX10_isBare_25 : decode cX10_isBare 25 = .ok (.goto 4, 3) := by decide +kernel
theorem dX10_isBare_28 : decode cX10_isBare 28 = .ok (.iconst 0, 1) := by decide +kernel
theorem dX10_isBare_29 : decode cX10_isBare 29 = .ok (.ireturn, 1) := by decide +kernel
theorem dX10_isClashing_0 : decode cX10_isClashing 0 = .ok (.aload_n 0, 1) := by decide +kernel
theorem dX10_isClashing_1 : decode cX10_isClashing 1 = .ok (.getfield 28, 3) := by decide +kernel
theorem dX10_isClashing_4 : decode cX10_isClashing 4 = .ok (.iload_n 1, 1) := by decide +kernel
theorem dX10_isClashing_5 : decode cX10_isClashing 5 = .ok (.iaload, 1) := by decide +kernel
theorem dX10_isClashing_6 : decode cX10_isClashing 6 = .ok (.bipush (-4), 2) := by decide +kernel
theorem dX10_isClashing_8 : decode cX10_isClashing 8 = .ok (.if_icmp .eq 31, 3) := by decide +kernel
theorem dX10_isClashing_11 : decode cX10_isClashing 11 = .ok (.aload_n 0, 1) := by decide +kernel
theorem dX10_isClashing_12 : decode cX10_isClashing 12 = .ok (.iload_n 1, 1) := by decide +kernel
theorem dX10_isClashing_13 : decode cX10_isClashing 13 = .ok (.invokevirtual 170, 3) := by decide +kernel
theorem dX10_isClashing_16 : decode cX10_isClashing 16 = .ok (.invokestatic 78, 3) := by decide +kernel
theorem dX10_isClashing_19 : decode cX10_isClashing 19 = .ok (.aload_n 0, 1) := by decide +kernel
theorem dX10_isClashing_20 : decode cX10_isClashing 20 = .ok (.aload_n 0, 1) := by decide +kernel
theorem dX10_isClashing_21 : decode cX10_isClashing 21 = .ok (.getfield 28, 3) := by decide +kernel
theorem dX10_isClashing_24 : decode cX10_isClashing 24 = .ok (.iload_n 1, 1) := by decide +kernel
theorem dX10_isClashing_25 : decode cX10_isClashing 25 = .ok (.iaload, 1) := by decide +kernel
theorem dX10_isClashing_26 : decode cX10_isClashing 26 = .ok (.invokevirtual 170, 3) := by decide +kernel
theorem dX10_isClashing_29 : decode cX10_isClashing 29 = .ok (.invokestatic 78, 3) := by decide +kernel
theorem dX10_isClashing_32 : decode cX10_isClashing 32 = .ok (.if_icmp .eq 7, 3) := by decide +kernel
theorem dX10_isClashing_35 : decode cX10_isClashing 35 = .ok (.iconst 1, 1) := by decide +kernel
theorem dX10_isClashing_36 : decode cX10_isClashing 36 = .ok (.goto 4, 3) := by decide +kernel
theorem dX10_isClashing_39 : decode cX10_isClashing 39 = .ok (.iconst 0, 1) := by decide +kernel
theorem dX10_isClashing_40 : decode cX10_isClashing 40 = .ok (.ireturn, 1) := by decide +kernel
theorem dX10_isFolded_0 : decode cX10_isFolded 0 = .ok (.iconst 0, 1) := by decide +kernel
theorem dX10_isFolded_1 : decode cX10_isFolded 1 = .ok (.istore_n 2, 1) := by decide +kernel
theorem dX10_isFolded_2 : decode cX10_isFolded 2 = .ok (.iload_n 1, 1) := by decide +kernel
theorem dX10_isFolded_3 : decode cX10_isFolded 3 = .ok (.iconst 1, 1) := by decide +kernel
theorem dX10_isFolded_4 : decode cX10_isFolded 4 = .ok (.iadd, 1) := by decide +kernel
theorem dX10_isFolded_5 : decode cX10_isFolded 5 = .ok (.istore_n 3, 1) := by decide +kernel
theorem dX10_isFolded_6 : decode cX10_isFolded 6 = .ok (.aload_n 0, 1) := by decide +kernel
theorem dX10_isFolded_7 : decode cX10_isFolded 7 = .ok (.iload_n 1, 1) := by decide +kernel
theorem dX10_isFolded_8 : decode cX10_isFolded 8 = .ok (.invokevirtual 177, 3) := by decide +kernel
theorem dX10_isFolded_11 : decode cX10_isFolded 11 = .ok (.ifCond .eq 39, 3) := by decide +kernel
theorem dX10_isFolded_14 : decode cX10_isFolded 14 = .ok (.iload_n 3, 1) := by decide +kernel
theorem dX10_isFolded_15 : decode cX10_isFolded 15 = .ok (.aload_n 0, 1) := by decide +kernel
theorem dX10_isFolded_16 : decode cX10_isFolded 16 = .ok (.getfield 28, 3) := by decide +kernel
theorem dX10_isFolded_19 : decode cX10_isFolded 19 = .ok (.iload_n 1, 1) := by decide +kernel
theorem dX10_isFolded_20 : decode cX10_isFolded 20 = .ok (.iaload, 1) := by decide +kernel
theorem dX10_isFolded_21 : decode cX10_isFolded 21 = .ok (.if_icmp .ge 29, 3) := by decide +kernel
theorem dX10_isFolded_24 : decode cX10_isFolded 24 = .ok (.iload_n 2, 1) := by decide +kernel
theorem dX10_isFolded_25 : decode cX10_isFolded 25 = .ok (.ifCond .ne 13, 3) := by decide +kernel
theorem dX10_isFolded_28 : decode cX10_isFolded 28 = .ok (.aload_n 0, 1) := by decide +kernel
theorem dX10_isFolded_29 : decode cX10_isFolded 29 = .ok (.iload_n 3, 1) := by decide +kernel
theorem dX10_isFolded_30 : decode cX10_isFolded 30 = .ok (.invokevirtual 170, 3) := by decide +kernel
theorem dX10_isFolded_33 : decode cX10_isFolded 33 = .ok (.bipush 47, 2) := by decide +kernel
theorem dX10_isFolded_35 : decode cX10_isFolded 35 = .ok (.if_icmp .ne 7, 3) := by decide +kernel
theorem dX10_isFolded_38 : decode cX10_isFolded 38 = .ok (.iconst 1, 1) := by decide +kernel
theorem dX10_isFolded_39 : decode cX10_isFolded 39 = .ok (.goto 4, 3) := by decide +kernel
theorem dX10_isFolded_42 : decode cX10_isFolded 42 = .ok (.iconst 0, 1) := by decide +kernel
theorem dX10_isFolded_43 : decode cX10_isFolded 43 = .ok (.istore_n 2, 1) := by decide +kernel
theorem dX10_isFolded_44 : decode cX10_isFolded 44 = .ok (.iinc 3 1, 3) := by decide +kernel
theorem dX10_isFolded_47 : decode cX10_isFolded 47 = .ok (.goto (-41), 3) := by decide +kernel
theorem dX10_isFolded_50 : decode cX10_isFolded 50 = .ok (.iload_n 2, 1) := by decide +kernel
theorem dX10_isFolded_51 : decode cX10_isFolded 51 = .ok (.ifCond .eq 15, 3) := by decide +kernel
theorem dX10_isFolded_54 : decode cX10_isFolded 54 = .ok (.aload_n 0, 1) := by decide +kernel
theorem dX10_isFolded_55 : decode cX10_isFolded 55 = .ok (.iload_n 1, 1) := by decide +kernel
theorem dX10_isFolded_56 : decode cX10_isFolded 56 = .ok (.invokevirtual 180, 3) := by decide +kernel
theorem dX10_isFolded_59 : decode cX10_isFolded 59 = .ok (.ifCond .eq 7, 3) := by decide +kernel
theorem dX10_isFolded_62 : decode cX10_isFolded 62 = .ok (.iconst 1, 1) := by decide +kernel
theorem dX10_isFolded_63 : decode cX10_isFolded 63 = .ok (.goto 4, 3) := by decide +kernel
theorem dX10_isFolded_66 : decode cX10_isFolded 66 = .ok (.iconst 0, 1) := by decide +kernel
theorem dX10_isFolded_67 : decode cX10_isFolded 67 = .ok (.ireturn, 1) := by decide +kernel
theorem dX10_isHidden_0 : decode cX10_isHidden 0 = .ok (.iconst 0, 1) := by decide +kernel
theorem dX10_isHidden_1 : decode cX10_isHidden 1 = .ok (.istore_n 2, 1) := by decide +kernel
theorem dX10_isHidden_2 : decode cX10_isHidden 2 = .ok (.iconst 0, 1) := by decide +kernel
theorem dX10_isHidden_3 : decode cX10_isHidden 3 = .ok (.istore_n 3, 1) := by decide +kernel
theorem dX10_isHidden_4 : decode cX10_isHidden 4 = .ok (.iload_n 3, 1) := by decide +kernel
theorem dX10_isHidden_5 : decode cX10_isHidden 5 = .ok (.iload_n 1, 1) := by decide +kernel
theorem dX10_isHidden_6 : decode cX10_isHidden 6 = .ok (.if_icmp .ge 37, 3) := by decide +kernel
theorem dX10_isHidden_9 : decode cX10_isHidden 9 = .ok (.iload_n 2, 1) := by decide +kernel
theorem dX10_isHidden_10 : decode cX10_isHidden 10 = .ok (.ifCond .ne 21, 3) := by decide +kernel
theorem dX10_isHidden_13 : decode cX10_isHidden 13 = .ok (.aload_n 0, 1) := by decide +kernel
theorem dX10_isHidden_14 : decode cX10_isHidden 14 = .ok (.getfield 28, 3) := by decide +kernel
theorem dX10_isHidden_17 : decode cX10_isHidden 17 = .ok (.iload_n 3, 1) := by decide +kernel
theorem dX10_isHidden_18 : decode cX10_isHidden 18 = .ok (.iaload, 1) := by decide +kernel
theorem dX10_isHidden_19 : decode cX10_isHidden 19 = .ok (.iload_n 1, 1) := by decide +kernel
theorem dX10_isHidden_20 : decode cX10_isHidden 20 = .ok (.if_icmp .le 15, 3) := by decide +kernel
theorem dX10_isHidden_23 : decode cX10_isHidden 23 = .ok (.aload_n 0, 1) := by decide +kernel
theorem dX10_isHidden_24 : decode cX10_isHidden 24 = .ok (.iload_n 3, 1) := by decide +kernel
theorem dX10_isHidden_25 : decode cX10_isHidden 25 = .ok (.invokevirtual 183, 3) := by decide +kernel
theorem dX10_isHidden_28 : decode cX10_isHidden 28 = .ok (.ifCond .eq 7, 3) := by decide +kernel
theorem dX10_isHidden_31 : decode cX10_isHidden 31 = .ok (.iconst 1, 1) := by decide +kernel
theorem dX10_isHidden_32 : decode cX10_isHidden 32 = .ok (.goto 4, 3) := by decide +kernel
theorem dX10_isHidden_35 : decode cX10_isHidden 35 = .ok (.iconst 0, 1) := by decide +kernel
theorem dX10_isHidden_36 : decode cX10_isHidden 36 = .ok (.istore_n 2, 1) := by decide +kernel
theorem dX10_isHidden_37 : decode cX10_isHidden 37 = .ok (.iinc 3 1, 3) := by decide +kernel
theorem dX10_isHidden_40 : decode cX10_isHidden 40 = .ok (.goto (-36), 3) := by decide +kernel
theorem dX10_isHidden_43 : decode cX10_isHidden 43 = .ok (.iload_n 2, 1) := by decide +kernel
theorem dX10_isHidden_44 : decode cX10_isHidden 44 = .ok (.ireturn, 1) := by decide +kernel
theorem dX10_levelOf_0 : decode cX10_levelOf 0 = .ok (.iconst 0, 1) := by decide +kernel
theorem dX10_levelOf_1 : decode cX10_levelOf 1 = .ok (.istore_n 2, 1) := by decide +kernel
theorem dX10_levelOf_2 : decode cX10_levelOf 2 = .ok (.iconst 0, 1) := by decide +kernel
theorem dX10_levelOf_3 : decode cX10_levelOf 3 = .ok (.istore_n 3, 1) := by decide +kernel
theorem dX10_levelOf_4 : decode cX10_levelOf 4 = .ok (.iload_n 3, 1) := by decide +kernel
theorem dX10_levelOf_5 : decode cX10_levelOf 5 = .ok (.iload_n 1, 1) := by decide +kernel
theorem dX10_levelOf_6 : decode cX10_levelOf 6 = .ok (.if_icmp .ge 27, 3) := by decide +kernel
theorem dX10_levelOf_9 : decode cX10_levelOf 9 = .ok (.iload_n 2, 1) := by decide +kernel
theorem dX10_levelOf_10 : decode cX10_levelOf 10 = .ok (.aload_n 0, 1) := by decide +kernel
theorem dX10_levelOf_11 : decode cX10_levelOf 11 = .ok (.getfield 28, 3) := by decide +kernel
theorem dX10_levelOf_14 : decode cX10_levelOf 14 = .ok (.iload_n 3, 1) := by decide +kernel
theorem dX10_levelOf_15 : decode cX10_levelOf 15 = .ok (.iaload, 1) := by decide +kernel
theorem dX10_levelOf_16 : decode cX10_levelOf 16 = .ok (.iload_n 1, 1) := by decide +kernel
theorem dX10_levelOf_17 : decode cX10_levelOf 17 = .ok (.if_icmp .le 7, 3) := by decide +kernel
theorem dX10_levelOf_20 : decode cX10_levelOf 20 = .ok (.iconst 1, 1) := by decide +kernel
theorem dX10_levelOf_21 : decode cX10_levelOf 21 = .ok (.goto 4, 3) := by decide +kernel
theorem dX10_levelOf_24 : decode cX10_levelOf 24 = .ok (.iconst 0, 1) := by decide +kernel
theorem dX10_levelOf_25 : decode cX10_levelOf 25 = .ok (.iadd, 1) := by decide +kernel
theorem dX10_levelOf_26 : decode cX10_levelOf 26 = .ok (.istore_n 2, 1) := by decide +kernel
theorem dX10_levelOf_27 : decode cX10_levelOf 27 = .ok (.iinc 3 1, 3) := by decide +kernel
theorem dX10_levelOf_30 : decode cX10_levelOf 30 = .ok (.goto (-26), 3) := by decide +kernel
theorem dX10_levelOf_33 : decode cX10_levelOf 33 = .ok (.iload_n 2, 1) := by decide +kernel
theorem dX10_levelOf_34 : decode cX10_levelOf 34 = .ok (.ireturn, 1) := by decide +kernel
theorem dX10_depthAt_0 : decode cX10_depthAt 0 = .ok (.iconst 0, 1) := by decide +kernel
theorem dX10_depthAt_1 : decode cX10_depthAt 1 = .ok (.istore_n 2, 1) := by decide +kernel
theorem dX10_depthAt_2 : decode cX10_depthAt 2 = .ok (.iconst 0, 1) := by decide +kernel
theorem dX10_depthAt_3 : decode cX10_depthAt 3 = .ok (.istore_n 3, 1) := by decide +kernel
theorem dX10_depthAt_4 : decode cX10_depthAt 4 = .ok (.iload_n 3, 1) := by decide +kernel
theorem dX10_depthAt_5 : decode cX10_depthAt 5 = .ok (.iload_n 1, 1) := by decide +kernel
theorem dX10_depthAt_6 : decode cX10_depthAt 6 = .ok (.if_icmp .ge 43, 3) := by decide +kernel
theorem dX10_depthAt_9 : decode cX10_depthAt 9 = .ok (.iload_n 2, 1) := by decide +kernel
theorem dX10_depthAt_10 : decode cX10_depthAt 10 = .ok (.aload_n 0, 1) := by decide +kernel
theorem dX10_depthAt_11 : decode cX10_depthAt 11 = .ok (.iload_n 3, 1) := by decide +kernel
theorem dX10_depthAt_12 : decode cX10_depthAt 12 = .ok (.invokevirtual 170, 3) := by decide +kernel
theorem dX10_depthAt_15 : decode cX10_depthAt 15 = .ok (.invokestatic 142, 3) := by decide +kernel
theorem dX10_depthAt_18 : decode cX10_depthAt 18 = .ok (.ifCond .eq 7, 3) := by decide +kernel
theorem dX10_depthAt_21 : decode cX10_depthAt 21 = .ok (.iconst 1, 1) := by decide +kernel
theorem dX10_depthAt_22 : decode cX10_depthAt 22 = .ok (.goto 19, 3) := by decide +kernel
theorem dX10_depthAt_25 : decode cX10_depthAt 25 = .ok (.aload_n 0, 1) := by decide +kernel
theorem dX10_depthAt_26 : decode cX10_depthAt 26 = .ok (.iload_n 3, 1) := by decide +kernel
theorem dX10_depthAt_27 : decode cX10_depthAt 27 = .ok (.invokevirtual 170, 3) := by decide +kernel
theorem dX10_depthAt_30 : decode cX10_depthAt 30 = .ok (.invokestatic 186, 3) := by decide +kernel
theorem dX10_depthAt_33 : decode cX10_depthAt 33 = .ok (.ifCond .eq 7, 3) := by decide +kernel
theorem dX10_depthAt_36 : decode cX10_depthAt 36 = .ok (.iconst (-1), 1) := by decide +kernel
theorem dX10_depthAt_37 : decode cX10_depthAt 37 = .ok (.goto 4, 3) := by decide +kernel
theorem dX10_depthAt_40 : decode cX10_depthAt 40 = .ok (.iconst 0, 1) := by decide +kernel
theorem dX10_depthAt_41 : decode cX10_depthAt 41 = .ok (.iadd, 1) := by decide +kernel
theorem dX10_depthAt_42 : decode cX10_depthAt 42 = .ok (.istore_n 2, 1) := by decide +kernel
theorem dX10_depthAt_43 : decode cX10_depthAt 43 = .ok (.iinc 3 1, 3) := by decide +kernel
theorem dX10_depthAt_46 : decode cX10_depthAt 46 = .ok (.goto (-42), 3) := by decide +kernel
theorem dX10_depthAt_49 : decode cX10_depthAt 49 = .ok (.iload_n 2, 1) := by decide +kernel
theorem dX10_depthAt_50 : decode cX10_depthAt 50 = .ok (.ireturn, 1) := by decide +kernel
theorem dX10_linesTo_0 : decode cX10_linesTo 0 = .ok (.iconst 0, 1) := by decide +kernel
theorem dX10_linesTo_1 : decode cX10_linesTo 1 = .ok (.istore_n 2, 1) := by decide +kernel
theorem dX10_linesTo_2 : decode cX10_linesTo 2 = .ok (.iconst 0, 1) := by decide +kernel
theorem dX10_linesTo_3 : decode cX10_linesTo 3 = .ok (.istore_n 3, 1) := by decide +kernel
theorem dX10_linesTo_4 : decode cX10_linesTo 4 = .ok (.iload_n 3, 1) := by decide +kernel
theorem dX10_linesTo_5 : decode cX10_linesTo 5 = .ok (.iload_n 1, 1) := by decide +kernel
theorem dX10_linesTo_6 : decode cX10_linesTo 6 = .ok (.if_icmp .ge 27, 3) := by decide +kernel
theorem dX10_linesTo_9 : decode cX10_linesTo 9 = .ok (.iload_n 2, 1) := by decide +kernel
theorem dX10_linesTo_10 : decode cX10_linesTo 10 = .ok (.aload_n 0, 1) := by decide +kernel
theorem dX10_linesTo_11 : decode cX10_linesTo 11 = .ok (.iload_n 3, 1) := by decide +kernel
theorem dX10_linesTo_12 : decode cX10_linesTo 12 = .ok (.invokevirtual 170, 3) := by decide +kernel
theorem dX10_linesTo_15 : decode cX10_linesTo 15 = .ok (.bipush 47, 2) := by decide +kernel
theorem dX10_linesTo_17 : decode cX10_linesTo 17 = .ok (.if_icmp .ne 7, 3) := by decide +kernel
theorem dX10_linesTo_20 : decode cX10_linesTo 20 = .ok (.iconst 1, 1) := by decide +kernel
theorem dX10_linesTo_21 : decode cX10_linesTo 21 = .ok (.goto 4, 3) := by decide +kernel
theorem dX10_linesTo_24 : decode cX10_linesTo 24 = .ok (.iconst 0, 1) := by decide +kernel
theorem dX10_linesTo_25 : decode cX10_linesTo 25 = .ok (.iadd, 1) := by decide +kernel
theorem dX10_linesTo_26 : decode cX10_linesTo 26 = .ok (.istore_n 2, 1) := by decide +kernel
theorem dX10_linesTo_27 : decode cX10_linesTo 27 = .ok (.iinc 3 1, 3) := by decide +kernel
theorem dX10_linesTo_30 : decode cX10_linesTo 30 = .ok (.goto (-26), 3) := by decide +kernel
theorem dX10_linesTo_33 : decode cX10_linesTo 33 = .ok (.iload_n 2, 1) := by decide +kernel
theorem dX10_linesTo_34 : decode cX10_linesTo 34 = .ok (.ireturn, 1) := by decide +kernel
theorem dX10_isCounted_0 : decode cX10_isCounted 0 = .ok (.iload_n 1, 1) := by decide +kernel
theorem dX10_isCounted_1 : decode cX10_isCounted 1 = .ok (.tableswitch 81 2 6 #[35, 41, 47, 69, 75], 35) := by decide +kernel
theorem dX10_isCounted_36 : decode cX10_isCounted 36 = .ok (.aload_n 0, 1) := by decide +kernel
theorem dX10_isCounted_37 : decode cX10_isCounted 37 = .ok (.iload_n 2, 1) := by decide +kernel
theorem dX10_isCounted_38 : decode cX10_isCounted 38 = .ok (.invokevirtual 177, 3) := by decide +kernel
theorem dX10_isCounted_41 : decode cX10_isCounted 41 = .ok (.ireturn, 1) := by decide +kernel
theorem dX10_isCounted_42 : decode cX10_isCounted 42 = .ok (.aload_n 0, 1) := by decide +kernel
theorem dX10_isCounted_43 : decode cX10_isCounted 43 = .ok (.iload_n 2, 1) := by decide +kernel
theorem dX10_isCounted_44 : decode cX10_isCounted 44 = .ok (.invokevirtual 189, 3) := by decide +kernel
theorem dX10_isCounted_47 : decode cX10_isCounted 47 = .ok (.ireturn, 1) := by decide +kernel
theorem dX10_isCounted_48 : decode cX10_isCounted 48 = .ok (.aload_n 0, 1) := by decide +kernel
theorem dX10_isCounted_49 : decode cX10_isCounted 49 = .ok (.iload_n 2, 1) := by decide +kernel
theorem dX10_isCounted_50 : decode cX10_isCounted 50 = .ok (.invokevirtual 177, 3) := by decide +kernel
theorem dX10_isCounted_53 : decode cX10_isCounted 53 = .ok (.ifCond .eq 15, 3) := by decide +kernel
theorem dX10_isCounted_56 : decode cX10_isCounted 56 = .ok (.aload_n 0, 1) := by decide +kernel
theorem dX10_isCounted_57 : decode cX10_isCounted 57 = .ok (.iload_n 2, 1) := by decide +kernel
theorem dX10_isCounted_58 : decode cX10_isCounted 58 = .ok (.invokevirtual 192, 3) := by decide +kernel
theorem dX10_isCounted_61 : decode cX10_isCounted 61 = .ok (.ifCond .eq 7, 3) := by decide +kernel
theorem dX10_isCounted_64 : decode cX10_isCounted 64 = .ok (.iconst 1, 1) := by decide +kernel
theorem dX10_isCounted_65 : decode cX10_isCounted 65 = .ok (.goto 4, 3) := by decide +kernel
theorem dX10_isCounted_68 : decode cX10_isCounted 68 = .ok (.iconst 0, 1) := by decide +kernel
theorem dX10_isCounted_69 : decode cX10_isCounted 69 = .ok (.ireturn, 1) := by decide +kernel
theorem dX10_isCounted_70 : decode cX10_isCounted 70 = .ok (.aload_n 0, 1) := by decide +kernel
theorem dX10_isCounted_71 : decode cX10_isCounted 71 = .ok (.iload_n 2, 1) := by decide +kernel
theorem dX10_isCounted_72 : decode cX10_isCounted 72 = .ok (.invokevirtual 183, 3) := by decide +kernel
theorem dX10_isCounted_75 : decode cX10_isCounted 75 = .ok (.ireturn, 1) := by decide +kernel
theorem dX10_isCounted_76 : decode cX10_isCounted 76 = .ok (.aload_n 0, 1) := by decide +kernel
theorem dX10_isCounted_77 : decode cX10_isCounted 77 = .ok (.iload_n 2, 1) := by decide +kernel
theorem dX10_isCounted_78 : decode cX10_isCounted 78 = .ok (.invokevirtual 195, 3) := by decide +kernel
theorem dX10_isCounted_81 : decode cX10_isCounted 81 = .ok (.ireturn, 1) := by decide +kernel
theorem dX10_isCounted_82 : decode cX10_isCounted 82 = .ok (.aload_n 0, 1) := by decide +kernel
theorem dX10_isCounted_83 : decode cX10_isCounted 83 = .ok (.iload_n 2, 1) := by decide +kernel
theorem dX10_isCounted_84 : decode cX10_isCounted 84 = .ok (.invokevirtual 180, 3) := by decide +kernel
theorem dX10_isCounted_87 : decode cX10_isCounted 87 = .ok (.ireturn, 1) := by decide +kernel
theorem dX10_counted_0 : decode cX10_counted 0 = .ok (.aload_n 0, 1) := by decide +kernel
theorem dX10_counted_1 : decode cX10_counted 1 = .ok (.invokevirtual 198, 3) := by decide +kernel
theorem dX10_counted_4 : decode cX10_counted 4 = .ok (.iconst 0, 1) := by decide +kernel
theorem dX10_counted_5 : decode cX10_counted 5 = .ok (.istore_n 2, 1) := by decide +kernel
theorem dX10_counted_6 : decode cX10_counted 6 = .ok (.iconst 0, 1) := by decide +kernel
theorem dX10_counted_7 : decode cX10_counted 7 = .ok (.istore_n 3, 1) := by decide +kernel
theorem dX10_counted_8 : decode cX10_counted 8 = .ok (.iload_n 3, 1) := by decide +kernel
theorem dX10_counted_9 : decode cX10_counted 9 = .ok (.aload_n 0, 1) := by decide +kernel
theorem dX10_counted_10 : decode cX10_counted 10 = .ok (.invokevirtual 165, 3) := by decide +kernel
theorem dX10_counted_13 : decode cX10_counted 13 = .ok (.if_icmp .ge 26, 3) := by decide +kernel
theorem dX10_counted_16 : decode cX10_counted 16 = .ok (.iload_n 2, 1) := by decide +kernel
theorem dX10_counted_17 : decode cX10_counted 17 = .ok (.aload_n 0, 1) := by decide +kernel
theorem dX10_counted_18 : decode cX10_counted 18 = .ok (.iload_n 1, 1) := by decide +kernel
theorem dX10_counted_19 : decode cX10_counted 19 = .ok (.iload_n 3, 1) := by decide +kernel
theorem dX10_counted_20 : decode cX10_counted 20 = .ok (.invokevirtual 201, 3) := by decide +kernel
theorem dX10_counted_23 : decode cX10_counted 23 = .ok (.ifCond .eq 7, 3) := by decide +kernel
theorem dX10_counted_26 : decode cX10_counted 26 = .ok (.iconst 1, 1) := by decide +kernel
theorem dX10_counted_27 : decode cX10_counted 27 = .ok (.goto 4, 3) := by decide +kernel
theorem dX10_counted_30 : decode cX10_counted 30 = .ok (.iconst 0, 1) := by decide +kernel
theorem dX10_counted_31 : decode cX10_counted 31 = .ok (.iadd, 1) := by decide +kernel
theorem dX10_counted_32 : decode cX10_counted 32 = .ok (.istore_n 2, 1) := by decide +kernel
theorem dX10_counted_33 : decode cX10_counted 33 = .ok (.iinc 3 1, 3) := by decide +kernel
theorem dX10_counted_36 : decode cX10_counted 36 = .ok (.goto (-28), 3) := by decide +kernel
theorem dX10_counted_39 : decode cX10_counted 39 = .ok (.iload_n 2, 1) := by decide +kernel
theorem dX10_counted_40 : decode cX10_counted 40 = .ok (.ireturn, 1) := by decide +kernel
theorem dX10_greatestLevel_0 : decode cX10_greatestLevel 0 = .ok (.aload_n 0, 1) := by decide +kernel
theorem dX10_greatestLevel_1 : decode cX10_greatestLevel 1 = .ok (.invokevirtual 198, 3) := by decide +kernel
theorem dX10_greatestLevel_4 : decode cX10_greatestLevel 4 = .ok (.iconst 0, 1) := by decide +kernel
theorem dX10_greatestLevel_5 : decode cX10_greatestLevel 5 = .ok (.istore_n 1, 1) := by decide +kernel
theorem dX10_greatestLevel_6 : decode cX10_greatestLevel 6 = .ok (.iconst 0, 1) := by decide +kernel
theorem dX10_greatestLevel_7 : decode cX10_greatestLevel 7 = .ok (.istore_n 2, 1) := by decide +kernel
theorem dX10_greatestLevel_8 : decode cX10_greatestLevel 8 = .ok (.iload_n 2, 1) := by decide +kernel
theorem dX10_greatestLevel_9 : decode cX10_greatestLevel 9 = .ok (.aload_n 0, 1) := by decide +kernel
theorem dX10_greatestLevel_10 : decode cX10_greatestLevel 10 = .ok (.invokevirtual 165, 3) := by decide +kernel
theorem dX10_greatestLevel_13 : decode cX10_greatestLevel 13 = .ok (.if_icmp .ge 28, 3) := by decide +kernel
theorem dX10_greatestLevel_16 : decode cX10_greatestLevel 16 = .ok (.aload_n 0, 1) := by decide +kernel
theorem dX10_greatestLevel_17 : decode cX10_greatestLevel 17 = .ok (.iload_n 2, 1) := by decide +kernel
theorem dX10_greatestLevel_18 : decode cX10_greatestLevel 18 = .ok (.invokevirtual 205, 3) := by decide +kernel
theorem dX10_greatestLevel_21 : decode cX10_greatestLevel 21 = .ok (.iload_n 1, 1) := by decide +kernel
theorem dX10_greatestLevel_22 : decode cX10_greatestLevel 22 = .ok (.if_icmp .le 11, 3) := by decide +kernel
theorem dX10_greatestLevel_25 : decode cX10_greatestLevel 25 = .ok (.aload_n 0, 1) := by decide +kernel
theorem dX10_greatestLevel_26 : decode cX10_greatestLevel 26 = .ok (.iload_n 2, 1) := by decide +kernel
theorem dX10_greatestLevel_27 : decode cX10_greatestLevel 27 = .ok (.invokevirtual 205, 3) := by decide +kernel
theorem dX10_greatestLevel_30 : decode cX10_greatestLevel 30 = .ok (.goto 4, 3) := by decide +kernel
theorem dX10_greatestLevel_33 : decode cX10_greatestLevel 33 = .ok (.iload_n 1, 1) := by decide +kernel
theorem dX10_greatestLevel_34 : decode cX10_greatestLevel 34 = .ok (.istore_n 1, 1) := by decide +kernel
theorem dX10_greatestLevel_35 : decode cX10_greatestLevel 35 = .ok (.iinc 2 1, 3) := by decide +kernel
theorem dX10_greatestLevel_38 : decode cX10_greatestLevel 38 = .ok (.goto (-30), 3) := by decide +kernel
theorem dX10_greatestLevel_41 : decode cX10_greatestLevel 41 = .ok (.iload_n 1, 1) := by decide +kernel
theorem dX10_greatestLevel_42 : decode cX10_greatestLevel 42 = .ok (.ireturn, 1) := by decide +kernel
theorem dX10_rule_0 : decode cX10_rule 0 = .ok (.iload_n 1, 1) := by decide +kernel
theorem dX10_rule_1 : decode cX10_rule 1 = .ok (.tableswitch 90 0 10 #[59, 64, 90, 90, 90, 90, 90, 90, 75, 80, 85], 59) := by decide +kernel
theorem dX10_rule_60 : decode cX10_rule 60 = .ok (.aload_n 0, 1) := by decide +kernel
theorem dX10_rule_61 : decode cX10_rule 61 = .ok (.invokevirtual 165, 3) := by decide +kernel
theorem dX10_rule_64 : decode cX10_rule 64 = .ok (.ireturn, 1) := by decide +kernel
theorem dX10_rule_65 : decode cX10_rule 65 = .ok (.aload_n 0, 1) := by decide +kernel
theorem dX10_rule_66 : decode cX10_rule 66 = .ok (.aload_n 0, 1) := by decide +kernel
theorem dX10_rule_67 : decode cX10_rule 67 = .ok (.invokevirtual 165, 3) := by decide +kernel
theorem dX10_rule_70 : decode cX10_rule 70 = .ok (.invokevirtual 208, 3) := by decide +kernel
theorem dX10_rule_73 : decode cX10_rule 73 = .ok (.iconst 1, 1) := by decide +kernel
theorem dX10_rule_74 : decode cX10_rule 74 = .ok (.iadd, 1) := by decide +kernel
theorem dX10_rule_75 : decode cX10_rule 75 = .ok (.ireturn, 1) := by decide +kernel
theorem dX10_rule_76 : decode cX10_rule 76 = .ok (.aload_n 0, 1) := by decide +kernel
theorem dX10_rule_77 : decode cX10_rule 77 = .ok (.getfield 159, 3) := by decide +kernel
theorem dX10_rule_80 : decode cX10_rule 80 = .ok (.ireturn, 1) := by decide +kernel
theorem dX10_rule_81 : decode cX10_rule 81 = .ok (.aload_n 0, 1) := by decide +kernel
theorem dX10_rule_82 : decode cX10_rule 82 = .ok (.getfield 162, 3) := by decide +kernel
theorem dX10_rule_85 : decode cX10_rule 85 = .ok (.ireturn, 1) := by decide +kernel
theorem dX10_rule_86 : decode cX10_rule 86 = .ok (.aload_n 0, 1) := by decide +kernel
theorem dX10_rule_87 : decode cX10_rule 87 = .ok (.invokevirtual 211, 3) := by decide +kernel
theorem dX10_rule_90 : decode cX10_rule 90 = .ok (.ireturn, 1) := by decide +kernel
theorem dX10_rule_91 : decode cX10_rule 91 = .ok (.iload_n 1, 1) := by decide +kernel
theorem dX10_rule_92 : decode cX10_rule 92 = .ok (.i2l, 1) := by decide +kernel
theorem dX10_rule_93 : decode cX10_rule 93 = .ok (.ldc2_w 168, 3) := by decide +kernel
theorem dX10_rule_96 : decode cX10_rule 96 = .ok (.ldc2_w 214, 3) := by decide +kernel
theorem dX10_rule_99 : decode cX10_rule 99 = .ok (.invokestatic 61, 3) := by decide +kernel
theorem dX10_rule_102 : decode cX10_rule 102 = .ok (.ifCond .eq 11, 3) := by decide +kernel
theorem dX10_rule_105 : decode cX10_rule 105 = .ok (.aload_n 0, 1) := by decide +kernel
theorem dX10_rule_106 : decode cX10_rule 106 = .ok (.iload_n 1, 1) := by decide +kernel
theorem dX10_rule_107 : decode cX10_rule 107 = .ok (.invokevirtual 216, 3) := by decide +kernel
theorem dX10_rule_110 : decode cX10_rule 110 = .ok (.goto 4, 3) := by decide +kernel
theorem dX10_rule_113 : decode cX10_rule 113 = .ok (.iconst (-1), 1) := by decide +kernel
theorem dX10_rule_114 : decode cX10_rule 114 = .ok (.ireturn, 1) := by decide +kernel
theorem dX10_isThere_0 : decode cX10_isThere 0 = .ok (.iload_n 1, 1) := by decide +kernel
theorem dX10_isThere_1 : decode cX10_isThere 1 = .ok (.i2l, 1) := by decide +kernel
theorem dX10_isThere_2 : decode cX10_isThere 2 = .ok (.lconst 0, 1) := by decide +kernel
theorem dX10_isThere_3 : decode cX10_isThere 3 = .ok (.aload_n 0, 1) := by decide +kernel
theorem dX10_isThere_4 : decode cX10_isThere 4 = .ok (.invokevirtual 165, 3) := by decide +kernel
theorem dX10_isThere_7 : decode cX10_isThere 7 = .ok (.iconst 1, 1) := by decide +kernel
theorem dX10_isThere_8 : decode cX10_isThere 8 = .ok (.isub, 1) := by decide +kernel
theorem dX10_isThere_9 : decode cX10_isThere 9 = .ok (.i2l, 1) := by decide +kernel
theorem dX10_isThere_10 : decode cX10_isThere 10 = .ok (.invokestatic 61, 3) := by decide +kernel
theorem dX10_isThere_13 : decode cX10_isThere 13 = .ok (.ireturn, 1) := by decide +kernel
theorem dX10_isPlace_0 : decode cX10_isPlace 0 = .ok (.iload_n 1, 1) := by decide +kernel
theorem dX10_isPlace_1 : decode cX10_isPlace 1 = .ok (.i2l, 1) := by decide +kernel
theorem dX10_isPlace_2 : decode cX10_isPlace 2 = .ok (.lconst 0, 1) := by decide +kernel
theorem dX10_isPlace_3 : decode cX10_isPlace 3 = .ok (.aload_n 0, 1) := by decide +kernel
theorem dX10_isPlace_4 : decode cX10_isPlace 4 = .ok (.invokevirtual 165, 3) := by decide +kernel
theorem dX10_isPlace_7 : decode cX10_isPlace 7 = .ok (.i2l, 1) := by decide +kernel
theorem dX10_isPlace_8 : decode cX10_isPlace 8 = .ok (.invokestatic 61, 3) := by decide +kernel
theorem dX10_isPlace_11 : decode cX10_isPlace 11 = .ok (.ireturn, 1) := by decide +kernel
theorem dX10_sign_0 : decode cX10_sign 0 = .ok (.aload_n 0, 1) := by decide +kernel
theorem dX10_sign_1 : decode cX10_sign 1 = .ok (.iload_n 1, 1) := by decide +kernel
theorem dX10_sign_2 : decode cX10_sign 2 = .ok (.invokevirtual 219, 3) := by decide +kernel
theorem dX10_sign_5 : decode cX10_sign 5 = .ok (.ifCond .ne 5, 3) := by decide +kernel
theorem dX10_sign_8 : decode cX10_sign 8 = .ok (.iconst (-1), 1) := by decide +kernel
theorem dX10_sign_9 : decode cX10_sign 9 = .ok (.ireturn, 1) := by decide +kernel
theorem dX10_sign_10 : decode cX10_sign 10 = .ok (.aload_n 0, 1) := by decide +kernel
theorem dX10_sign_11 : decode cX10_sign 11 = .ok (.invokevirtual 198, 3) := by decide +kernel
theorem dX10_sign_14 : decode cX10_sign 14 = .ok (.iload_n 2, 1) := by decide +kernel
theorem dX10_sign_15 : decode cX10_sign 15 = .ok (.tableswitch 129 0 8 #[49, 55, 61, 67, 74, 81, 95, 109, 123], 49) := by decide +kernel
theorem dX10_sign_64 : decode cX10_sign 64 = .ok (.aload_n 0, 1) := by decide +kernel
theorem dX10_sign_65 : decode cX10_sign 65 = .ok (.iload_n 1, 1) := by decide +kernel
theorem dX10_sign_66 : decode cX10_sign 66 = .ok (.invokevirtual 170, 3) := by decide +kernel
theorem dX10_sign_69 : decode cX10_sign 69 = .ok (.ireturn, 1) := by decide +kernel
theorem dX10_sign_70 : decode cX10_sign 70 = .ok (.aload_n 0, 1) := by decide +kernel
theorem dX10_sign_71 : decode cX10_sign 71 = .ok (.iload_n 1, 1) := by decide +kernel
theorem dX10_sign_72 : decode cX10_sign 72 = .ok (.invokevirtual 222, 3) := by decide +kernel
theorem dX10_sign_75 : decode cX10_sign 75 = .ok (.ireturn, 1) := by decide +kernel
theorem dX10_sign_76 : decode cX10_sign 76 = .ok (.aload_n 0, 1) := by decide +kernel
theorem dX10_sign_77 : decode cX10_sign 77 = .ok (.iload_n 1, 1) := by decide +kernel
theorem dX10_sign_78 : decode cX10_sign 78 = .ok (.invokevirtual 205, 3) := by decide +kernel
theorem dX10_sign_81 : decode cX10_sign 81 = .ok (.ireturn, 1) := by decide +kernel
theorem dX10_sign_82 : decode cX10_sign 82 = .ok (.aload_n 0, 1) := by decide +kernel
theorem dX10_sign_83 : decode cX10_sign 83 = .ok (.getfield 28, 3) := by decide +kernel
theorem dX10_sign_86 : decode cX10_sign 86 = .ok (.iload_n 1, 1) := by decide +kernel
theorem dX10_sign_87 : decode cX10_sign 87 = .ok (.iaload, 1) := by decide +kernel
theorem dX10_sign_88 : decode cX10_sign 88 = .ok (.ireturn, 1) := by decide +kernel
theorem dX10_sign_89 : decode cX10_sign 89 = .ok (.aload_n 0, 1) := by decide +kernel
theorem dX10_sign_90 : decode cX10_sign 90 = .ok (.getfield 31, 3) := by decide +kernel
theorem dX10_sign_93 : decode cX10_sign 93 = .ok (.iload_n 1, 1) := by decide +kernel
theorem dX10_sign_94 : decode cX10_sign 94 = .ok (.iaload, 1) := by decide +kernel
theorem dX10_sign_95 : decode cX10_sign 95 = .ok (.ireturn, 1) := by decide +kernel
theorem dX10_sign_96 : decode cX10_sign 96 = .ok (.aload_n 0, 1) := by decide +kernel
theorem dX10_sign_97 : decode cX10_sign 97 = .ok (.iload_n 1, 1) := by decide +kernel
theorem dX10_sign_98 : decode cX10_sign 98 = .ok (.invokevirtual 192, 3) := by decide +kernel
theorem dX10_sign_101 : decode cX10_sign 101 = .ok (.ifCond .eq 7, 3) := by decide +kernel
theorem dX10_sign_104 : decode cX10_sign 104 = .ok (.iconst 1, 1) := by decide +kernel
theorem dX10_sign_105 : decode cX10_sign 105 = .ok (.goto 4, 3) := by decide +kernel
theorem dX10_sign_108 : decode cX10_sign 108 = .ok (.iconst 0, 1) := by decide +kernel
theorem dX10_sign_109 : decode cX10_sign 109 = .ok (.ireturn, 1) := by decide +kernel
theorem dX10_sign_110 : decode cX10_sign 110 = .ok (.aload_n 0, 1) := by decide +kernel
theorem dX10_sign_111 : decode cX10_sign 111 = .ok (.iload_n 1, 1) := by decide +kernel
theorem dX10_sign_112 : decode cX10_sign 112 = .ok (.invokevirtual 180, 3) := by decide +kernel
theorem dX10_sign_115 : decode cX10_sign 115 = .ok (.ifCond .eq 7, 3) := by decide +kernel
theorem dX10_sign_118 : decode cX10_sign 118 = .ok (.iconst 1, 1) := by decide +kernel
theorem dX10_sign_119 : decode cX10_sign 119 = .ok (.goto 4, 3) := by decide +kernel
theorem dX10_sign_122 : decode cX10_sign 122 = .ok (.iconst 0, 1) := by decide +kernel
theorem dX10_sign_123 : decode cX10_sign 123 = .ok (.ireturn, 1) := by decide +kernel
theorem dX10_sign_124 : decode cX10_sign 124 = .ok (.aload_n 0, 1) := by decide +kernel
theorem dX10_sign_125 : decode cX10_sign 125 = .ok (.iload_n 1, 1) := by decide +kernel
theorem dX10_sign_126 : decode cX10_sign 126 = .ok (.invokevirtual 195, 3) := by decide +kernel
theorem dX10_sign_129 : decode cX10_sign 129 = .ok (.ifCond .eq 7, 3) := by decide +kernel
theorem dX10_sign_132 : decode cX10_sign 132 = .ok (.iconst 1, 1) := by decide +kernel
theorem dX10_sign_133 : decode cX10_sign 133 = .ok (.goto 4, 3) := by decide +kernel
theorem dX10_sign_136 : decode cX10_sign 136 = .ok (.iconst 0, 1) := by decide +kernel
theorem dX10_sign_137 : decode cX10_sign 137 = .ok (.ireturn, 1) := by decide +kernel
theorem dX10_sign_138 : decode cX10_sign 138 = .ok (.aload_n 0, 1) := by decide +kernel
theorem dX10_sign_139 : decode cX10_sign 139 = .ok (.iload_n 1, 1) := by decide +kernel
theorem dX10_sign_140 : decode cX10_sign 140 = .ok (.invokevirtual 208, 3) := by decide +kernel
theorem dX10_sign_143 : decode cX10_sign 143 = .ok (.ireturn, 1) := by decide +kernel
theorem dX10_sign_144 : decode cX10_sign 144 = .ok (.iconst (-1), 1) := by decide +kernel
theorem dX10_sign_145 : decode cX10_sign 145 = .ok (.ireturn, 1) := by decide +kernel
theorem dX10_low_0 : decode cX10_low 0 = .ok (.aload_n 0, 1) := by decide +kernel
theorem dX10_low_1 : decode cX10_low 1 = .ok (.iload_n 1, 1) := by decide +kernel
theorem dX10_low_2 : decode cX10_low 2 = .ok (.invokevirtual 225, 3) := by decide +kernel
theorem dX10_low_5 : decode cX10_low 5 = .ok (.ifCond .eq 16, 3) := by decide +kernel
theorem dX10_low_8 : decode cX10_low 8 = .ok (.aload_n 0, 1) := by decide +kernel
theorem dX10_low_9 : decode cX10_low 9 = .ok (.iload_n 2, 1) := by decide +kernel
theorem dX10_low_10 : decode cX10_low 10 = .ok (.invokevirtual 225, 3) := by decide +kernel
theorem dX10_low_13 : decode cX10_low 13 = .ok (.ifCond .eq 8, 3) := by decide +kernel
theorem dX10_low_16 : decode cX10_low 16 = .ok (.iload_n 2, 1) := by decide +kernel
theorem dX10_low_17 : decode cX10_low 17 = .ok (.iload_n 1, 1) := by decide +kernel
theorem dX10_low_18 : decode cX10_low 18 = .ok (.if_icmp .ge 5, 3) := by decide +kernel
theorem dX10_low_21 : decode cX10_low 21 = .ok (.iconst (-1), 1) := by decide +kernel
theorem dX10_low_22 : decode cX10_low 22 = .ok (.ireturn, 1) := by decide +kernel
theorem dX10_low_23 : decode cX10_low 23 = .ok (.aload_n 0, 1) := by decide +kernel
theorem dX10_low_24 : decode cX10_low 24 = .ok (.iload_n 1, 1) := by decide +kernel
theorem dX10_low_25 : decode cX10_low 25 = .ok (.invokevirtual 222, 3) := by decide +kernel
theorem dX10_low_28 : decode cX10_low 28 = .ok (.istore_n 3, 1) := by decide +kernel
theorem dX10_low_29 : decode cX10_low 29 = .ok (.iload_n 1, 1) := by decide +kernel
theorem dX10_low_30 : decode cX10_low 30 = .ok (.istore 4, 2) := by decide +kernel
theorem dX10_low_32 : decode cX10_low 32 = .ok (.iload 4, 2) := by decide +kernel
theorem dX10_low_34 : decode cX10_low 34 = .ok (.iload_n 2, 1) := by decide +kernel
theorem dX10_low_35 : decode cX10_low 35 = .ok (.if_icmp .gt 30, 3) := by decide +kernel
theorem dX10_low_38 : decode cX10_low 38 = .ok (.aload_n 0, 1) := by decide +kernel
theorem dX10_low_39 : decode cX10_low 39 = .ok (.iload 4, 2) := by decide +kernel
theorem dX10_low_41 : decode cX10_low 41 = .ok (.invokevirtual 222, 3) := by decide +kernel
theorem dX10_low_44 : decode cX10_low 44 = .ok (.iload_n 3, 1) := by decide +kernel
theorem dX10_low_45 : decode cX10_low 45 = .ok (.if_icmp .ge 12, 3) := by decide +kernel
theorem dX10_low_48 : decode cX10_low 48 = .ok (.aload_n 0, 1) := by decide +kernel
theorem dX10_low_49 : decode cX10_low 49 = .ok (.iload 4, 2) := by decide +kernel
theorem dX10_low_51 : decode cX10_low 51 = .ok (.invokevirtual 222, 3) := by decide +kernel
theorem dX10_low_54 : decode cX10_low 54 = .ok (.goto 4, 3) := by decide +kernel
theorem dX10_low_57 : decode cX10_low 57 = .ok (.iload_n 3, 1) := by decide +kernel
theorem dX10_low_58 : decode cX10_low 58 = .ok (.istore_n 3, 1) := by decide +kernel
theorem dX10_low_59 : decode cX10_low 59 = .ok (.iinc 4 1, 3) := by decide +kernel
theorem dX10_low_62 : decode cX10_low 62 = .ok (.goto (-30), 3) := by decide +kernel
theorem dX10_low_65 : decode cX10_low 65 = .ok (.iload_n 3, 1) := by decide +kernel
theorem dX10_low_66 : decode cX10_low 66 = .ok (.ireturn, 1) := by decide +kernel
theorem dX10_around_0 : decode cX10_around 0 = .ok (.aload_n 0, 1) := by decide +kernel
theorem dX10_around_1 : decode cX10_around 1 = .ok (.iload_n 1, 1) := by decide +kernel
theorem dX10_around_2 : decode cX10_around 2 = .ok (.invokevirtual 219, 3) := by decide +kernel
theorem dX10_around_5 : decode cX10_around 5 = .ok (.ifCond .eq 15, 3) := by decide +kernel
theorem dX10_around_8 : decode cX10_around 8 = .ok (.iload_n 2, 1) := by decide +kernel
theorem dX10_around_9 : decode cX10_around 9 = .ok (.i2l, 1) := by decide +kernel
theorem dX10_around_10 : decode cX10_around 10 = .ok (.lconst 0, 1) := by decide +kernel
theorem dX10_around_11 : decode cX10_around 11 = .ok (.ldc2_w 228, 3) := by decide +kernel
theorem dX10_around_14 : decode cX10_around 14 = .ok (.invokestatic 61, 3) := by decide +kernel
theorem dX10_around_17 : decode cX10_around 17 = .ok (.ifCond .ne 5, 3) := by decide +kernel
theorem dX10_around_20 : decode cX10_around 20 = .ok (.iconst (-1), 1) := by decide +kernel
theorem dX10_around_21 : decode cX10_around 21 = .ok (.ireturn, 1) := by decide +kernel
theorem dX10_around_22 : decode cX10_around 22 = .ok (.aload_n 0, 1) := by decide +kernel
theorem dX10_around_23 : decode cX10_around 23 = .ok (.invokevirtual 198, 3) := by decide +kernel
theorem dX10_around_26 : decode cX10_around 26 = .ok (.iload_n 1, 1) := by decide +kernel
theorem dX10_around_27 : decode cX10_around 27 = .ok (.iconst 1, 1) := by decide +kernel
theorem dX10_around_28 : decode cX10_around 28 = .ok (.isub, 1) := by decide +kernel
theorem dX10_around_29 : decode cX10_around 29 = .ok (.istore_n 3, 1) := by decide +kernel
theorem dX10_around_30 : decode cX10_around 30 = .ok (.iload_n 3, 1) := by decide +kernel
theorem dX10_around_31 : decode cX10_around 31 = .ok (.ifCond .lt 68, 3) := by decide +kernel
theorem dX10_around_34 : decode cX10_around 34 = .ok (.iload_n 2, 1) := by decide +kernel
theorem dX10_around_35 : decode cX10_around 35 = .ok (.iconst 3, 1) := by decide +kernel
theorem dX10_around_36 : decode cX10_around 36 = .ok (.if_icmp .ne 21, 3) := by decide +kernel
theorem dX10_around_39 : decode cX10_around 39 = .ok (.aload_n 0, 1) := by decide +kernel
theorem dX10_around_40 : decode cX10_around 40 = .ok (.getfield 28, 3) := by decide +kernel
theorem dX10_around_43 : decode cX10_around 43 = .ok (.iload_n 3, 1) := by decide +kernel
theorem dX10_around_44 : decode cX10_around 44 = .ok (.iaload, 1) := by decide +kernel
theorem dX10_around_45 : decode cX10_around 45 = .ok (.iload_n 1, 1) := by decide +kernel
theorem dX10_around_46 : decode cX10_around 46 = .ok (.if_icmp .le 7, 3) := by decide +kernel
theorem dX10_around_49 : decode cX10_around 49 = .ok (.iconst 1, 1) := by decide +kernel
theorem dX10_around_50 : decode cX10_around 50 = .ok (.goto 34, 3) := by decide +kernel
theorem dX10_around_53 : decode cX10_around 53 = .ok (.iconst 0, 1) := by decide +kernel
theorem dX10_around_54 : decode cX10_around 54 = .ok (.goto 30, 3) := by decide +kernel
theorem dX10_around_57 : decode cX10_around 57 = .ok (.aload_n 0, 1) := by decide +kernel
theorem dX10_around_58 : decode cX10_around 58 = .ok (.iload_n 3, 1) := by decide +kernel
theorem dX10_around_59 : decode cX10_around 59 = .ok (.invokevirtual 170, 3) := by decide +kernel
theorem dX10_around_62 : decode cX10_around 62 = .ok (.invokestatic 78, 3) := by decide +kernel
theorem dX10_around_65 : decode cX10_around 65 = .ok (.iload_n 2, 1) := by decide +kernel
theorem dX10_around_66 : decode cX10_around 66 = .ok (.if_icmp .ne 17, 3) := by decide +kernel
theorem dX10_around_69 : decode cX10_around 69 = .ok (.aload_n 0, 1) := by decide +kernel
theorem dX10_around_70 : decode cX10_around 70 = .ok (.getfield 31, 3) := by decide +kernel
theorem dX10_around_73 : decode cX10_around 73 = .ok (.iload_n 3, 1) := by decide +kernel
theorem dX10_around_74 : decode cX10_around 74 = .ok (.iaload, 1) := by decide +kernel
theorem dX10_around_75 : decode cX10_around 75 = .ok (.iload_n 1, 1) := by decide +kernel
theorem dX10_around_76 : decode cX10_around 76 = .ok (.if_icmp .le 7, 3) := by decide +kernel
theorem dX10_around_79 : decode cX10_around 79 = .ok (.iconst 1, 1) := by decide +kernel
theorem dX10_around_80 : decode cX10_around 80 = .ok (.goto 4, 3) := by decide +kernel
theorem dX10_around_83 : decode cX10_around 83 = .ok (.iconst 0, 1) := by decide +kernel
theorem dX10_around_84 : decode cX10_around 84 = .ok (.istore 4, 2) := by decide +kernel
theorem dX10_around_86 : decode cX10_around 86 = .ok (.iload 4, 2) := by decide +kernel
theorem dX10_around_88 : decode cX10_around 88 = .ok (.ifCond .eq 5, 3) := by decide +kernel
theorem dX10_around_91 : decode cX10_around 91 = .ok (.iload_n 3, 1) := by decide +kernel
theorem dX10_around_92 : decode cX10_around 92 = .ok (.ireturn, 1) := by decide +kernel
theorem dX10_around_93 : decode cX10_around 93 = .ok (.iinc 3 (-1), 3) := by decide +kernel
theorem dX10_around_96 : decode cX10_around 96 = .ok (.goto (-66), 3) := by decide +kernel
theorem dX10_around_99 : decode cX10_around 99 = .ok (.bipush (-4), 2) := by decide +kernel
theorem dX10_around_101 : decode cX10_around 101 = .ok (.ireturn, 1) := by decide +kernel
theorem dX10_wholeFrom_0 : decode cX10_wholeFrom 0 = .ok (.iload_n 1, 1) := by decide +kernel
theorem dX10_wholeFrom_1 : decode cX10_wholeFrom 1 = .ok (.istore_n 2, 1) := by decide +kernel
theorem dX10_wholeFrom_2 : decode cX10_wholeFrom 2 = .ok (.iload_n 1, 1) := by decide +kernel
theorem dX10_wholeFrom_3 : decode cX10_wholeFrom 3 = .ok (.istore_n 3, 1) := by decide +kernel
theorem dX10_wholeFrom_4 : decode cX10_wholeFrom 4 = .ok (.iload_n 1, 1) := by decide +kernel
theorem dX10_wholeFrom_5 : decode cX10_wholeFrom 5 = .ok (.istore 4, 2) := by decide +kernel
theorem dX10_wholeFrom_7 : decode cX10_wholeFrom 7 = .ok (.iload 4, 2) := by decide +kernel
theorem dX10_wholeFrom_9 : decode cX10_wholeFrom 9 = .ok (.aload_n 0, 1) := by decide +kernel
theorem dX10_wholeFrom_10 : decode cX10_wholeFrom 10 = .ok (.invokevirtual 165, 3) := by decide +kernel
theorem dX10_wholeFrom_13 : decode cX10_wholeFrom 13 = .ok (.if_icmp .ge 86, 3) := by decide +kernel
theorem dX10_wholeFrom_16 : decode cX10_wholeFrom 16 = .ok (.aload_n 0, 1) := by decide +kernel
theorem dX10_wholeFrom_17 : decode cX10_wholeFrom 17 = .ok (.iload 4, 2) := by decide +kernel
theorem dX10_wholeFrom_19 : decode cX10_wholeFrom 19 = .ok (.invokevirtual 170, 3) := by decide +kernel
theorem dX10_wholeFrom_22 : decode cX10_wholeFrom 22 = .ok (.invokestatic 78, 3) := by decide +kernel
theorem dX10_wholeFrom_25 : decode cX10_wholeFrom 25 = .ok (.bipush (-4), 2) := by decide +kernel
theorem dX10_wholeFrom_27 : decode cX10_wholeFrom 27 = .ok (.if_icmp .eq 51, 3) := by decide +kernel
theorem dX10_wholeFrom_30 : decode cX10_wholeFrom 30 = .ok (.aload_n 0, 1) := by decide +kernel
theorem dX10_wholeFrom_31 : decode cX10_wholeFrom 31 = .ok (.getfield 28, 3) := by decide +kernel
theorem dX10_wholeFrom_34 : decode cX10_wholeFrom 34 = .ok (.iload 4, 2) := by decide +kernel
theorem dX10_wholeFrom_36 : decode cX10_wholeFrom 36 = .ok (.iaload, 1) := by decide +kernel
theorem dX10_wholeFrom_37 : decode cX10_wholeFrom 37 = .ok (.bipush (-4), 2) := by decide +kernel
theorem dX10_wholeFrom_39 : decode cX10_wholeFrom 39 = .ok (.if_icmp .eq 14, 3) := by decide +kernel
theorem dX10_wholeFrom_42 : decode cX10_wholeFrom 42 = .ok (.aload_n 0, 1) := by decide +kernel
theorem dX10_wholeFrom_43 : decode cX10_wholeFrom 43 = .ok (.getfield 28, 3) := by decide +kernel
theorem dX10_wholeFrom_46 : decode cX10_wholeFrom 46 = .ok (.iload 4, 2) := by decide +kernel
theorem dX10_wholeFrom_48 : decode cX10_wholeFrom 48 = .ok (.iaload, 1) := by decide +kernel
theorem dX10_wholeFrom_49 : decode cX10_wholeFrom 49 = .ok (.iload_n 1, 1) := by decide +kernel
theorem dX10_wholeFrom_50 : decode cX10_wholeFrom 50 = .ok (.if_icmp .ge 5, 3) := by decide +kernel
theorem dX10_wholeFrom_53 : decode cX10_wholeFrom 53 = .ok (.iload_n 2, 1) := by decide +kernel
theorem dX10_wholeFrom_54 : decode cX10_wholeFrom 54 = .ok (.ireturn, 1) := by decide +kernel
theorem dX10_wholeFrom_55 : decode cX10_wholeFrom 55 = .ok (.aload_n 0, 1) := by decide +kernel
theorem dX10_wholeFrom_56 : decode cX10_wholeFrom 56 = .ok (.getfield 28, 3) := by decide +kernel
theorem dX10_wholeFrom_59 : decode cX10_wholeFrom 59 = .ok (.iload 4, 2) := by decide +kernel
theorem dX10_wholeFrom_61 : decode cX10_wholeFrom 61 = .ok (.iaload, 1) := by decide +kernel
theorem dX10_wholeFrom_62 : decode cX10_wholeFrom 62 = .ok (.iload_n 3, 1) := by decide +kernel
theorem dX10_wholeFrom_63 : decode cX10_wholeFrom 63 = .ok (.if_icmp .le 13, 3) := by decide +kernel
theorem dX10_wholeFrom_66 : decode cX10_wholeFrom 66 = .ok (.aload_n 0, 1) := by decide +kernel
theorem dX10_wholeFrom_67 : decode cX10_wholeFrom 67 = .ok (.getfield 28, 3) := by decide +kernel
theorem dX10_wholeFrom_70 : decode cX10_wholeFrom 70 = .ok (.iload 4, 2) := by decide +kernel
theorem dX10_wholeFrom_72 : decode cX10_wholeFrom 72 = .ok (.iaload, 1) := by decide +kernel
theorem dX10_wholeFrom_73 : decode cX10_wholeFrom 73 = .ok (.goto 4, 3) := by decide +kernel
theorem dX10_wholeFrom_76 : decode cX10_wholeFrom 76 = .ok (.iload_n 3, 1) := by decide +kernel
theorem dX10_wholeFrom_77 : decode cX10_wholeFrom 77 = .ok (.istore_n 3, 1) := by decide +kernel
theorem dX10_wholeFrom_78 : decode cX10_wholeFrom 78 = .ok (.iload_n 3, 1) := by decide +kernel
theorem dX10_wholeFrom_79 : decode cX10_wholeFrom 79 = .ok (.iload 4, 2) := by decide +kernel
theorem dX10_wholeFrom_81 : decode cX10_wholeFrom 81 = .ok (.if_icmp .gt 10, 3) := by decide +kernel
theorem dX10_wholeFrom_84 : decode cX10_wholeFrom 84 = .ok (.iload 4, 2) := by decide +kernel
theorem dX10_wholeFrom_86 : decode cX10_wholeFrom 86 = .ok (.iconst 1, 1) := by decide +kernel
theorem dX10_wholeFrom_87 : decode cX10_wholeFrom 87 = .ok (.iadd, 1) := by decide +kernel
theorem dX10_wholeFrom_88 : decode cX10_wholeFrom 88 = .ok (.goto 4, 3) := by decide +kernel
theorem dX10_wholeFrom_91 : decode cX10_wholeFrom 91 = .ok (.iload_n 2, 1) := by decide +kernel
theorem dX10_wholeFrom_92 : decode cX10_wholeFrom 92 = .ok (.istore_n 2, 1) := by decide +kernel
theorem dX10_wholeFrom_93 : decode cX10_wholeFrom 93 = .ok (.iinc 4 1, 3) := by decide +kernel
theorem dX10_wholeFrom_96 : decode cX10_wholeFrom 96 = .ok (.goto (-89), 3) := by decide +kernel
theorem dX10_wholeFrom_99 : decode cX10_wholeFrom 99 = .ok (.iload_n 2, 1) := by decide +kernel
theorem dX10_wholeFrom_100 : decode cX10_wholeFrom 100 = .ok (.ireturn, 1) := by decide +kernel
theorem dX10_whole_0 : decode cX10_whole 0 = .ok (.aload_n 0, 1) := by decide +kernel
theorem dX10_whole_1 : decode cX10_whole 1 = .ok (.iload_n 1, 1) := by decide +kernel
theorem dX10_whole_2 : decode cX10_whole 2 = .ok (.invokevirtual 225, 3) := by decide +kernel
theorem dX10_whole_5 : decode cX10_whole 5 = .ok (.ifCond .ne 5, 3) := by decide +kernel
theorem dX10_whole_8 : decode cX10_whole 8 = .ok (.iconst (-1), 1) := by decide +kernel
theorem dX10_whole_9 : decode cX10_whole 9 = .ok (.ireturn, 1) := by decide +kernel
theorem dX10_whole_10 : decode cX10_whole 10 = .ok (.aload_n 0, 1) := by decide +kernel
theorem dX10_whole_11 : decode cX10_whole 11 = .ok (.invokevirtual 198, 3) := by decide +kernel
theorem dX10_whole_14 : decode cX10_whole 14 = .ok (.aload_n 0, 1) := by decide +kernel
theorem dX10_whole_15 : decode cX10_whole 15 = .ok (.iload_n 1, 1) := by decide +kernel
theorem dX10_whole_16 : decode cX10_whole 16 = .ok (.invokevirtual 230, 3) := by decide +kernel
theorem dX10_whole_19 : decode cX10_whole 19 = .ok (.ireturn, 1) := by decide +kernel
theorem dX10_bare_0 : decode cX10_bare 0 = .ok (.aload_n 0, 1) := by decide +kernel
theorem dX10_bare_1 : decode cX10_bare 1 = .ok (.iload_n 1, 1) := by decide +kernel
theorem dX10_bare_2 : decode cX10_bare 2 = .ok (.invokevirtual 225, 3) := by decide +kernel
theorem dX10_bare_5 : decode cX10_bare 5 = .ok (.ifCond .eq 13, 3) := by decide +kernel
theorem dX10_bare_8 : decode cX10_bare 8 = .ok (.iload_n 2, 1) := by decide +kernel
theorem dX10_bare_9 : decode cX10_bare 9 = .ok (.i2l, 1) := by decide +kernel
theorem dX10_bare_10 : decode cX10_bare 10 = .ok (.lconst 0, 1) := by decide +kernel
theorem dX10_bare_11 : decode cX10_bare 11 = .ok (.lconst 1, 1) := by decide +kernel
theorem dX10_bare_12 : decode cX10_bare 12 = .ok (.invokestatic 61, 3) := by decide +kernel
theorem dX10_bare_15 : decode cX10_bare 15 = .ok (.ifCond .ne 5, 3) := by decide +kernel
theorem dX10_bare_18 : decode cX10_bare 18 = .ok (.iconst (-1), 1) := by decide +kernel
theorem dX10_bare_19 : decode cX10_bare 19 = .ok (.ireturn, 1) := by decide +kernel
theorem dX10_bare_20 : decode cX10_bare 20 = .ok (.aload_n 0, 1) := by decide +kernel
theorem dX10_bare_21 : decode cX10_bare 21 = .ok (.invokevirtual 198, 3) := by decide +kernel
theorem dX10_bare_24 : decode cX10_bare 24 = .ok (.bipush (-4), 2) := by decide +kernel
theorem dX10_bare_26 : decode cX10_bare 26 = .ok (.istore_n 3, 1) := by decide +kernel
theorem dX10_bare_27 : decode cX10_bare 27 = .ok (.iconst 0, 1) := by decide +kernel
theorem dX10_bare_28 : decode cX10_bare 28 = .ok (.istore 4, 2) := by decide +kernel
theorem dX10_bare_30 : decode cX10_bare 30 = .ok (.iload 4, 2) := by decide +kernel
theorem dX10_bare_32 : decode cX10_bare 32 = .ok (.aload_n 0, 1) := by decide +kernel
theorem dX10_bare_33 : decode cX10_bare 33 = .ok (.invokevirtual 165, 3) := by decide +kernel
theorem dX10_bare_36 : decode cX10_bare 36 = .ok (.if_icmp .ge 62, 3) := by decide +kernel
theorem dX10_bare_39 : decode cX10_bare 39 = .ok (.aload_n 0, 1) := by decide +kernel
theorem dX10_bare_40 : decode cX10_bare 40 = .ok (.iload 4, 2) := by decide +kernel
theorem dX10_bare_42 : decode cX10_bare 42 = .ok (.invokevirtual 189, 3) := by decide +kernel
theorem dX10_bare_45 : decode cX10_bare 45 = .ok (.ifCond .eq 32, 3) := by decide +kernel
theorem dX10_bare_48 : decode cX10_bare 48 = .ok (.iload_n 2, 1) := by decide +kernel
theorem dX10_bare_49 : decode cX10_bare 49 = .ok (.ifCond .ne 18, 3) := by decide +kernel
theorem dX10_bare_52 : decode cX10_bare 52 = .ok (.iload 4, 2) := by decide +kernel
theorem dX10_bare_54 : decode cX10_bare 54 = .ok (.iload_n 1, 1) := by decide +kernel
theorem dX10_bare_55 : decode cX10_bare 55 = .ok (.if_icmp .lt 22, 3) := by decide +kernel
theorem dX10_bare_58 : decode cX10_bare 58 = .ok (.iload_n 3, 1) := by decide +kernel
theorem dX10_bare_59 : decode cX10_bare 59 = .ok (.bipush (-4), 2) := by decide +kernel
theorem dX10_bare_61 : decode cX10_bare 61 = .ok (.if_icmp .ne 16, 3) := by decide +kernel
theorem dX10_bare_64 : decode cX10_bare 64 = .ok (.goto 9, 3) := by decide +kernel
theorem dX10_bare_67 : decode cX10_bare 67 = .ok (.iload 4, 2) := by decide +kernel
theorem dX10_bare_69 : decode cX10_bare 69 = .ok (.iload_n 1, 1) := by decide +kernel
theorem dX10_bare_70 : decode cX10_bare 70 = .ok (.if_icmp .ge 7, 3) := by decide +kernel
theorem dX10_bare_73 : decode cX10_bare 73 = .ok (.iconst 1, 1) := by decide +kernel
theorem dX10_bare_74 : decode cX10_bare 74 = .ok (.goto 4, 3) := by decide +kernel
theorem dX10_bare_77 : decode cX10_bare 77 = .ok (.iconst 0, 1) := by decide +kernel
theorem dX10_bare_78 : decode cX10_bare 78 = .ok (.istore 5, 2) := by decide +kernel
theorem dX10_bare_80 : decode cX10_bare 80 = .ok (.iload 5, 2) := by decide +kernel
theorem dX10_bare_82 : decode cX10_bare 82 = .ok (.ifCond .eq 8, 3) := by decide +kernel
theorem dX10_bare_85 : decode cX10_bare 85 = .ok (.iload 4, 2) := by decide +kernel
theorem dX10_bare_87 : decode cX10_bare 87 = .ok (.goto 4, 3) := by decide +kernel
theorem dX10_bare_90 : decode cX10_bare 90 = .ok (.iload_n 3, 1) := by decide +kernel
theorem dX10_bare_91 : decode cX10_bare 91 = .ok (.istore_n 3, 1) := by decide +kernel
theorem dX10_bare_92 : decode cX10_bare 92 = .ok (.iinc 4 1, 3) := by decide +kernel
theorem dX10_bare_95 : decode cX10_bare 95 = .ok (.goto (-65), 3) := by decide +kernel
theorem dX10_bare_98 : decode cX10_bare 98 = .ok (.iload_n 3, 1) := by decide +kernel
theorem dX10_bare_99 : decode cX10_bare 99 = .ok (.ireturn, 1) := by decide +kernel
theorem dX10_longest_0 : decode cX10_longest 0 = .ok (.iload_n 1, 1) := by decide +kernel
theorem dX10_longest_1 : decode cX10_longest 1 = .ok (.i2l, 1) := by decide +kernel
theorem dX10_longest_2 : decode cX10_longest 2 = .ok (.lconst 0, 1) := by decide +kernel
theorem dX10_longest_3 : decode cX10_longest 3 = .ok (.lconst 1, 1) := by decide +kernel
theorem dX10_longest_4 : decode cX10_longest 4 = .ok (.invokestatic 61, 3) := by decide +kernel
theorem dX10_longest_7 : decode cX10_longest 7 = .ok (.ifCond .ne 5, 3) := by decide +kernel
theorem dX10_longest_10 : decode cX10_longest 10 = .ok (.iconst (-1), 1) := by decide +kernel
theorem dX10_longest_11 : decode cX10_longest 11 = .ok (.ireturn, 1) := by decide +kernel
theorem dX10_longest_12 : decode cX10_longest 12 = .ok (.aload_n 0, 1) := by decide +kernel
theorem dX10_longest_13 : decode cX10_longest 13 = .ok (.invokevirtual 198, 3) := by decide +kernel
theorem dX10_longest_16 : decode cX10_longest 16 = .ok (.iconst 0, 1) := by decide +kernel
theorem dX10_longest_17 : decode cX10_longest 17 = .ok (.istore_n 2, 1) := by decide +kernel
theorem dX10_longest_18 : decode cX10_longest 18 = .ok (.iconst 0, 1) := by decide +kernel
theorem dX10_longest_19 : decode cX10_longest 19 = .ok (.istore_n 3, 1) := by decide +kernel
theorem dX10_longest_20 : decode cX10_longest 20 = .ok (.iconst 0, 1) := by decide +kernel
theorem dX10_longest_21 : decode cX10_longest 21 = .ok (.istore 4, 2) := by decide +kernel
theorem dX10_longest_23 : decode cX10_longest 23 = .ok (.iload 4, 2) := by decide +kernel
theorem dX10_longest_25 : decode cX10_longest 25 = .ok (.aload_n 0, 1) := by decide +kernel
theorem dX10_longest_26 : decode cX10_longest 26 = .ok (.invokevirtual 165, 3) := by decide +kernel
theorem dX10_longest_29 : decode cX10_longest 29 = .ok (.if_icmp .ge 46, 3) := by decide +kernel
theorem dX10_longest_32 : decode cX10_longest 32 = .ok (.aload_n 0, 1) := by decide +kernel
theorem dX10_longest_33 : decode cX10_longest 33 = .ok (.iload 4, 2) := by decide +kernel
theorem dX10_longest_35 : decode cX10_longest 35 = .ok (.invokevirtual 230, 3) := by decide +kernel
theorem dX10_longest_38 : decode cX10_longest 38 = .ok (.iload 4, 2) := by decide +kernel
theorem dX10_longest_40 : decode cX10_longest 40 = .ok (.isub, 1) := by decide +kernel
theorem dX10_longest_41 : decode cX10_longest 41 = .ok (.istore 5, 2) := by decide +kernel
theorem dX10_longest_43 : decode cX10_longest 43 = .ok (.iload 5, 2) := by decide +kernel
theorem dX10_longest_45 : decode cX10_longest 45 = .ok (.iload_n 3, 1) := by decide +kernel
theorem dX10_longest_46 : decode cX10_longest 46 = .ok (.if_icmp .le 8, 3) := by decide +kernel
theorem dX10_longest_49 : decode cX10_longest 49 = .ok (.iload 4, 2) := by decide +kernel
theorem dX10_longest_51 : decode cX10_longest 51 = .ok (.goto 4, 3) := by decide +kernel
theorem dX10_longest_54 : decode cX10_longest 54 = .ok (.iload_n 2, 1) := by decide +kernel
theorem dX10_longest_55 : decode cX10_longest 55 = .ok (.istore_n 2, 1) := by decide +kernel
theorem dX10_longest_56 : decode cX10_longest 56 = .ok (.iload 5, 2) := by decide +kernel
theorem dX10_longest_58 : decode cX10_longest 58 = .ok (.iload_n 3, 1) := by decide +kernel
theorem dX10_longest_59 : decode cX10_longest 59 = .ok (.if_icmp .le 8, 3) := by decide +kernel
theorem dX10_longest_62 : decode cX10_longest 62 = .ok (.iload 5, 2) := by decide +kernel
theorem dX10_longest_64 : decode cX10_longest 64 = .ok (.goto 4, 3) := by decide +kernel
theorem dX10_longest_67 : decode cX10_longest 67 = .ok (.iload_n 3, 1) := by decide +kernel
theorem dX10_longest_68 : decode cX10_longest 68 = .ok (.istore_n 3, 1) := by decide +kernel
theorem dX10_longest_69 : decode cX10_longest 69 = .ok (.iinc 4 1, 3) := by decide +kernel
theorem dX10_longest_72 : decode cX10_longest 72 = .ok (.goto (-49), 3) := by decide +kernel
theorem dX10_longest_75 : decode cX10_longest 75 = .ok (.iload_n 1, 1) := by decide +kernel
theorem dX10_longest_76 : decode cX10_longest 76 = .ok (.ifCond .ne 7, 3) := by decide +kernel
theorem dX10_longest_79 : decode cX10_longest 79 = .ok (.iload_n 2, 1) := by decide +kernel
theorem dX10_longest_80 : decode cX10_longest 80 = .ok (.goto 4, 3) := by decide +kernel
theorem dX10_longest_83 : decode cX10_longest 83 = .ok (.iload_n 3, 1) := by decide +kernel
theorem dX10_longest_84 : decode cX10_longest 84 = .ok (.ireturn, 1) := by decide +kernel
theorem dX10_seen_0 : decode cX10_seen 0 = .ok (.iload_n 1, 1) := by decide +kernel
theorem dX10_seen_1 : decode cX10_seen 1 = .ok (.ifCond .ge 5, 3) := by decide +kernel
theorem dX10_seen_4 : decode cX10_seen 4 = .ok (.iconst (-1), 1) := by decide +kernel
theorem dX10_seen_5 : decode cX10_seen 5 = .ok (.ireturn, 1) := by decide +kernel
theorem dX10_seen_6 : decode cX10_seen 6 = .ok (.aload_n 0, 1) := by decide +kernel
theorem dX10_seen_7 : decode cX10_seen 7 = .ok (.invokevirtual 198, 3) := by decide +kernel
theorem dX10_seen_10 : decode cX10_seen 10 = .ok (.iload_n 1, 1) := by decide +kernel
theorem dX10_seen_11 : decode cX10_seen 11 = .ok (.istore_n 2, 1) := by decide +kernel
theorem dX10_seen_12 : decode cX10_seen 12 = .ok (.iconst 0, 1) := by decide +kernel
theorem dX10_seen_13 : decode cX10_seen 13 = .ok (.istore_n 3, 1) := by decide +kernel
theorem dX10_seen_14 : decode cX10_seen 14 = .ok (.iload_n 3, 1) := by decide +kernel
theorem dX10_seen_15 : decode cX10_seen 15 = .ok (.aload_n 0, 1) := by decide +kernel
theorem dX10_seen_16 : decode cX10_seen 16 = .ok (.invokevirtual 165, 3) := by decide +kernel
theorem dX10_seen_19 : decode cX10_seen 19 = .ok (.if_icmp .ge 26, 3) := by decide +kernel
theorem dX10_seen_22 : decode cX10_seen 22 = .ok (.aload_n 0, 1) := by decide +kernel
theorem dX10_seen_23 : decode cX10_seen 23 = .ok (.iload_n 3, 1) := by decide +kernel
theorem dX10_seen_24 : decode cX10_seen 24 = .ok (.invokevirtual 195, 3) := by decide +kernel
theorem dX10_seen_27 : decode cX10_seen 27 = .ok (.ifCond .ne 12, 3) := by decide +kernel
theorem dX10_seen_30 : decode cX10_seen 30 = .ok (.iload_n 2, 1) := by decide +kernel
theorem dX10_seen_31 : decode cX10_seen 31 = .ok (.ifCond .ne 5, 3) := by decide +kernel
theorem dX10_seen_34 : decode cX10_seen 34 = .ok (.iload_n 3, 1) := by decide +kernel
theorem dX10_seen_35 : decode cX10_seen 35 = .ok (.ireturn, 1) := by decide +kernel
theorem dX10_seen_36 : decode cX10_seen 36 = .ok (.iinc 2 (-1), 3) := by decide +kernel
theorem dX10_seen_39 : decode cX10_seen 39 = .ok (.iinc 3 1, 3) := by decide +kernel
theorem dX10_seen_42 : decode cX10_seen 42 = .ok (.goto (-28), 3) := by decide +kernel
theorem dX10_seen_45 : decode cX10_seen 45 = .ok (.bipush (-4), 2) := by decide +kernel
theorem dX10_seen_47 : decode cX10_seen 47 = .ok (.ireturn, 1) := by decide +kernel
theorem dX10_keepsIn_0 : decode cX10_keepsIn 0 = .ok (.iconst 0, 1) := by decide +kernel
theorem dX10_keepsIn_1 : decode cX10_keepsIn 1 = .ok (.istore_n 3, 1) := by decide +kernel
theorem dX10_keepsIn_2 : decode cX10_keepsIn 2 = .ok (.iload_n 3, 1) := by decide +kernel
theorem dX10_keepsIn_3 : decode cX10_keepsIn 3 = .ok (.bipush 61, 2) := by decide +kernel
theorem dX10_keepsIn_5 : decode cX10_keepsIn 5 = .ok (.if_icmp .ge 23, 3) := by decide +kernel
theorem dX10_keepsIn_8 : decode cX10_keepsIn 8 = .ok (.aload_n 1, 1) := by decide +kernel
theorem dX10_keepsIn_9 : decode cX10_keepsIn 9 = .ok (.bipush 61, 2) := by decide +kernel
theorem dX10_keepsIn_11 : decode cX10_keepsIn 11 = .ok (.iload_n 2, 1) := by decide +kernel
theorem dX10_keepsIn_12 : decode cX10_keepsIn 12 = .ok (.imul, 1) := by decide +kernel
theorem dX10_keepsIn_13 : decode cX10_keepsIn 13 = .ok (.iload_n 3, 1) := by decide +kernel
theorem dX10_keepsIn_14 : decode cX10_keepsIn 14 = .ok (.iadd, 1) := by decide +kernel
theorem dX10_keepsIn_15 : decode cX10_keepsIn 15 = .ok (.aload_n 0, 1) := by decide +kernel
theorem dX10_keepsIn_16 : decode cX10_keepsIn 16 = .ok (.getfield 7, 3) := by decide +kernel
theorem dX10_keepsIn_19 : decode cX10_keepsIn 19 = .ok (.iload_n 3, 1) := by decide +kernel
theorem dX10_keepsIn_20 : decode cX10_keepsIn 20 = .ok (.iaload, 1) := by decide +kernel
theorem dX10_keepsIn_21 : decode cX10_keepsIn 21 = .ok (.iastore, 1) := by decide +kernel
theorem dX10_keepsIn_22 : decode cX10_keepsIn 22 = .ok (.iinc 3 1, 3) := by decide +kernel
theorem dX10_keepsIn_25 : decode cX10_keepsIn 25 = .ok (.goto (-23), 3) := by decide +kernel
theorem dX10_keepsIn_28 : decode cX10_keepsIn 28 = .ok (.return_, 1) := by decide +kernel
theorem dX10_comesFrom_0 : decode cX10_comesFrom 0 = .ok (.iconst 0, 1) := by decide +kernel
theorem dX10_comesFrom_1 : decode cX10_comesFrom 1 = .ok (.istore_n 3, 1) := by decide +kernel
theorem dX10_comesFrom_2 : decode cX10_comesFrom 2 = .ok (.iload_n 3, 1) := by decide +kernel
theorem dX10_comesFrom_3 : decode cX10_comesFrom 3 = .ok (.bipush 61, 2) := by decide +kernel
theorem dX10_comesFrom_5 : decode cX10_comesFrom 5 = .ok (.if_icmp .ge 23, 3) := by decide +kernel
theorem dX10_comesFrom_8 : decode cX10_comesFrom 8 = .ok (.aload_n 0, 1) := by decide +kernel
theorem dX10_comesFrom_9 : decode cX10_comesFrom 9 = .ok (.getfield 7, 3) := by decide +kernel
theorem dX10_comesFrom_12 : decode cX10_comesFrom 12 = .ok (.iload_n 3, 1) := by decide +kernel
theorem dX10_comesFrom_13 : decode cX10_comesFrom 13 = .ok (.aload_n 1, 1) := by decide +kernel
theorem dX10_comesFrom_14 : decode cX10_comesFrom 14 = .ok (.bipush 61, 2) := by decide +kernel
theorem dX10_comesFrom_16 : decode cX10_comesFrom 16 = .ok (.iload_n 2, 1) := by decide +kernel
theorem dX10_comesFrom_17 : decode cX10_comesFrom 17 = .ok (.imul, 1) := by decide +kernel
theorem dX10_comesFrom_18 : decode cX10_comesFrom 18 = .ok (.iload_n 3, 1) := by decide +kernel
theorem dX10_comesFrom_19 : decode cX10_comesFrom 19 = .ok (.iadd, 1) := by decide +kernel
theorem dX10_comesFrom_20 : decode cX10_comesFrom 20 = .ok (.iaload, 1) := by decide +kernel
theorem dX10_comesFrom_21 : decode cX10_comesFrom 21 = .ok (.iastore, 1) := by decide +kernel
theorem dX10_comesFrom_22 : decode cX10_comesFrom 22 = .ok (.iinc 3 1, 3) := by decide +kernel
theorem dX10_comesFrom_25 : decode cX10_comesFrom 25 = .ok (.goto (-23), 3) := by decide +kernel
theorem dX10_comesFrom_28 : decode cX10_comesFrom 28 = .ok (.return_, 1) := by decide +kernel
theorem dX10_remembers_0 : decode cX10_remembers 0 = .ok (.aload_n 0, 1) := by decide +kernel
theorem dX10_remembers_1 : decode cX10_remembers 1 = .ok (.getfield 159, 3) := by decide +kernel
theorem dX10_remembers_4 : decode cX10_remembers 4 = .ok (.bipush 20, 2) := by decide +kernel
theorem dX10_remembers_6 : decode cX10_remembers 6 = .ok (.if_icmp .ne 43, 3) := by decide +kernel
theorem dX10_remembers_9 : decode cX10_remembers 9 = .ok (.iconst 0, 1) := by decide +kernel
theorem dX10_remembers_10 : decode cX10_remembers 10 = .ok (.istore_n 1, 1) := by decide +kernel
theorem dX10_remembers_11 : decode cX10_remembers 11 = .ok (.iload_n 1, 1) := by decide +kernel
theorem dX10_remembers_12 : decode cX10_remembers 12 = .ok (.sipush 1159, 3) := by decide +kernel
theorem dX10_remembers_15 : decode cX10_remembers 15 = .ok (.if_icmp .ge 24, 3) := by decide +kernel
theorem dX10_remembers_18 : decode cX10_remembers 18 = .ok (.aload_n 0, 1) := by decide +kernel
theorem dX10_remembers_19 : decode cX10_remembers 19 = .ok (.getfield 37, 3) := by decide +kernel
theorem dX10_remembers_22 : decode cX10_remembers 22 = .ok (.iload_n 1, 1) := by decide +kernel
theorem dX10_remembers_23 : decode cX10_remembers 23 = .ok (.aload_n 0, 1) := by decide +kernel
theorem dX10_remembers_24 : decode cX10_remembers 24 = .ok (.getfield 37, 3) := by decide +kernel
theorem dX10_remembers_27 : decode cX10_remembers 27 = .ok (.iload_n 1, 1) := by decide +kernel
theorem dX10_remembers_28 : decode cX10_remembers 28 = .ok (.bipush 61, 2) := by decide +kernel
theorem dX10_remembers_30 : decode cX10_remembers 30 = .ok (.iadd, 1) := by decide +kernel
theorem dX10_remembers_31 : decode cX10_remembers 31 = .ok (.iaload, 1) := by decide +kernel
theorem dX10_remembers_32 : decode cX10_remembers 32 = .ok (.iastore, 1) := by decide +kernel
theorem dX10_remembers_33 : decode cX10_remembers 33 = .ok (.iinc 1 1, 3) := by decide +kernel
theorem dX10_remembers_36 : decode cX10_remembers 36 = .ok (.goto (-25), 3) := by decide +kernel
theorem dX10_remembers_39 : decode cX10_remembers 39 = .ok (.aload_n 0, 1) := by decide +kernel
theorem dX10_remembers_40 : decode cX10_remembers 40 = .ok (.dup, 1) := by decide +kernel
theorem dX10_remembers_41 : decode cX10_remembers 41 = .ok (.getfield 159, 3) := by decide +kernel
theorem dX10_remembers_44 : decode cX10_remembers 44 = .ok (.iconst 1, 1) := by decide +kernel
theorem dX10_remembers_45 : decode cX10_remembers 45 = .ok (.isub, 1) := by decide +kernel
theorem dX10_remembers_46 : decode cX10_remembers 46 = .ok (.putfield 159, 3) := by decide +kernel
theorem dX10_remembers_49 : decode cX10_remembers 49 = .ok (.aload_n 0, 1) := by decide +kernel
theorem dX10_remembers_50 : decode cX10_remembers 50 = .ok (.aload_n 0, 1) := by decide +kernel
theorem dX10_remembers_51 : decode cX10_remembers 51 = .ok (.getfield 37, 3) := by decide +kernel
theorem dX10_remembers_54 : decode cX10_remembers 54 = .ok (.aload_n 0, 1) := by decide +kernel
theorem dX10_remembers_55 : decode cX10_remembers 55 = .ok (.getfield 159, 3) := by decide +kernel
theorem dX10_remembers_58 : decode cX10_remembers 58 = .ok (.invokevirtual 233, 3) := by decide +kernel
theorem dX10_remembers_61 : decode cX10_remembers 61 = .ok (.aload_n 0, 1) := by decide +kernel
theorem dX10_remembers_62 : decode cX10_remembers 62 = .ok (.dup, 1) := by decide +kernel
theorem dX10_remembers_63 : decode cX10_remembers 63 = .ok (.getfield 159, 3) := by decide +kernel
theorem dX10_remembers_66 : decode cX10_remembers 66 = .ok (.iconst 1, 1) := by decide +kernel
theorem dX10_remembers_67 : decode cX10_remembers 67 = .ok (.iadd, 1) := by decide +kernel
theorem dX10_remembers_68 : decode cX10_remembers 68 = .ok (.putfield 159, 3) := by decide +kernel
theorem dX10_remembers_71 : decode cX10_remembers 71 = .ok (.return_, 1) := by decide +kernel
theorem dX10_edits_0 : decode cX10_edits 0 = .ok (.aload_n 0, 1) := by decide +kernel
theorem dX10_edits_1 : decode cX10_edits 1 = .ok (.invokevirtual 237, 3) := by decide +kernel
theorem dX10_edits_4 : decode cX10_edits 4 = .ok (.aload_n 0, 1) := by decide +kernel
theorem dX10_edits_5 : decode cX10_edits 5 = .ok (.iconst 0, 1) := by decide +kernel
theorem dX10_edits_6 : decode cX10_edits 6 = .ok (.putfield 162, 3) := by decide +kernel
theorem dX10_edits_9 : decode cX10_edits 9 = .ok (.return_, 1) := by decide +kernel
theorem dX10_put_0 : decode cX10_put 0 = .ok (.aload_n 0, 1) := by decide +kernel
theorem dX10_put_1 : decode cX10_put 1 = .ok (.iload_n 1, 1) := by decide +kernel
theorem dX10_put_2 : decode cX10_put 2 = .ok (.invokevirtual 219, 3) := by decide +kernel
theorem dX10_put_5 : decode cX10_put 5 = .ok (.ifCond .eq 10, 3) := by decide +kernel
theorem dX10_put_8 : decode cX10_put 8 = .ok (.iload_n 2, 1) := by decide +kernel
theorem dX10_put_9 : decode cX10_put 9 = .ok (.invokestatic 98, 3) := by decide +kernel
theorem dX10_put_12 : decode cX10_put 12 = .ok (.ifCond .ne 5, 3) := by decide +kernel
theorem dX10_put_15 : decode cX10_put 15 = .ok (.iconst (-1), 1) := by decide +kernel
theorem dX10_put_16 : decode cX10_put 16 = .ok (.ireturn, 1) := by decide +kernel
theorem dX10_put_17 : decode cX10_put 17 = .ok (.aload_n 0, 1) := by decide +kernel
theorem dX10_put_18 : decode cX10_put 18 = .ok (.invokevirtual 240, 3) := by decide +kernel
theorem dX10_put_21 : decode cX10_put 21 = .ok (.aload_n 0, 1) := by decide +kernel
theorem dX10_put_22 : decode cX10_put 22 = .ok (.iload_n 1, 1) := by decide +kernel
theorem dX10_put_23 : decode cX10_put 23 = .ok (.invokevirtual 170, 3) := by decide +kernel
theorem dX10_put_26 : decode cX10_put 26 = .ok (.istore_n 3, 1) := by decide +kernel
theorem dX10_put_27 : decode cX10_put 27 = .ok (.aload_n 0, 1) := by decide +kernel
theorem dX10_put_28 : decode cX10_put 28 = .ok (.getfield 7, 3) := by decide +kernel
theorem dX10_put_31 : decode cX10_put 31 = .ok (.iload_n 1, 1) := by decide +kernel
theorem dX10_put_32 : decode cX10_put 32 = .ok (.iload_n 2, 1) := by decide +kernel
theorem dX10_put_33 : decode cX10_put 33 = .ok (.iastore, 1) := by decide +kernel
theorem dX10_put_34 : decode cX10_put 34 = .ok (.iload_n 3, 1) := by decide +kernel
theorem dX10_put_35 : decode cX10_put 35 = .ok (.ireturn, 1) := by decide +kernel
theorem dX10_comesIn_0 : decode cX10_comesIn 0 = .ok (.aload_n 0, 1) := by decide +kernel
theorem dX10_comesIn_1 : decode cX10_comesIn 1 = .ok (.invokevirtual 165, 3) := by decide +kernel
theorem dX10_comesIn_4 : decode cX10_comesIn 4 = .ok (.istore_n 3, 1) := by decide +kernel
theorem dX10_comesIn_5 : decode cX10_comesIn 5 = .ok (.iload_n 3, 1) := by decide +kernel
theorem dX10_comesIn_6 : decode cX10_comesIn 6 = .ok (.iload_n 1, 1) := by decide +kernel
theorem dX10_comesIn_7 : decode cX10_comesIn 7 = .ok (.if_icmp .le 23, 3) := by decide +kernel
theorem dX10_comesIn_10 : decode cX10_comesIn 10 = .ok (.aload_n 0, 1) := by decide +kernel
theorem dX10_comesIn_11 : decode cX10_comesIn 11 = .ok (.getfield 7, 3) := by decide +kernel
theorem dX10_comesIn_14 : decode cX10_comesIn 14 = .ok (.iload_n 3, 1) := by decide +kernel
theorem dX10_comesIn_15 : decode cX10_comesIn 15 = .ok (.aload_n 0, 1) := by decide +kernel
theorem dX10_comesIn_16 : decode cX10_comesIn 16 = .ok (.getfield 7, 3) := by decide +kernel
theorem dX10_comesIn_19 : decode cX10_comesIn 19 = .ok (.iload_n 3, 1) := by decide +kernel
theorem dX10_comesIn_20 : decode cX10_comesIn 20 = .ok (.iconst 1, 1) := by decide +kernel
theorem dX10_comesIn_21 : decode cX10_comesIn 21 = .ok (.isub, 1) := by decide +kernel
theorem dX10_comesIn_22 : decode cX10_comesIn 22 = .ok (.iaload, 1) := by decide +kernel
theorem dX10_comesIn_23 : decode cX10_comesIn 23 = .ok (.iastore, 1) := by decide +kernel
theorem dX10_comesIn_24 : decode cX10_comesIn 24 = .ok (.iinc 3 (-1), 3) := by decide +kernel
theorem dX10_comesIn_27 : decode cX10_comesIn 27 = .ok (.goto (-22), 3) := by decide +kernel
theorem dX10_comesIn_30 : decode cX10_comesIn 30 = .ok (.aload_n 0, 1) := by decide +kernel
theorem dX10_comesIn_31 : decode cX10_comesIn 31 = .ok (.getfield 7, 3) := by decide +kernel
theorem dX10_comesIn_34 : decode cX10_comesIn 34 = .ok (.iload_n 1, 1) := by decide +kernel
theorem dX10_comesIn_35 : decode cX10_comesIn 35 = .ok (.iload_n 2, 1) := by decide +kernel
theorem dX10_comesIn_36 : decode cX10_comesIn 36 = .ok (.iastore, 1) := by decide +kernel
theorem dX10_comesIn_37 : decode cX10_comesIn 37 = .ok (.aload_n 0, 1) := by decide +kernel
theorem dX10_comesIn_38 : decode cX10_comesIn 38 = .ok (.getfield 7, 3) := by decide +kernel
theorem dX10_comesIn_41 : decode cX10_comesIn 41 = .ok (.bipush 60, 2) := by decide +kernel
theorem dX10_comesIn_43 : decode cX10_comesIn 43 = .ok (.dup2, 1) := by decide +kernel
theorem dX10_comesIn_44 : decode cX10_comesIn 44 = .ok (.iaload, 1) := by decide +kernel
theorem dX10_comesIn_45 : decode cX10_comesIn 45 = .ok (.iconst 1, 1) := by decide +kernel
theorem dX10_comesIn_46 : decode cX10_comesIn 46 = .ok (.iadd, 1) := by decide +kernel
theorem dX10_comesIn_47 : decode cX10_comesIn 47 = .ok (.iastore, 1) := by decide +kernel
theorem dX10_comesIn_48 : decode cX10_comesIn 48 = .ok (.return_, 1) := by decide +kernel
theorem dX10_insert_0 : decode cX10_insert 0 = .ok (.aload_n 0, 1) := by decide +kernel
theorem dX10_insert_1 : decode cX10_insert 1 = .ok (.iload_n 1, 1) := by decide +kernel
theorem dX10_insert_2 : decode cX10_insert 2 = .ok (.invokevirtual 225, 3) := by decide +kernel
theorem dX10_insert_5 : decode cX10_insert 5 = .ok (.ifCond .eq 10, 3) := by decide +kernel
theorem dX10_insert_8 : decode cX10_insert 8 = .ok (.iload_n 2, 1) := by decide +kernel
theorem dX10_insert_9 : decode cX10_insert 9 = .ok (.invokestatic 98, 3) := by decide +kernel
theorem dX10_insert_12 : decode cX10_insert 12 = .ok (.ifCond .ne 5, 3) := by decide +kernel
theorem dX10_insert_15 : decode cX10_insert 15 = .ok (.iconst (-1), 1) := by decide +kernel
theorem dX10_insert_16 : decode cX10_insert 16 = .ok (.ireturn, 1) := by decide +kernel
theorem dX10_insert_17 : decode cX10_insert 17 = .ok (.aload_n 0, 1) := by decide +kernel
theorem dX10_insert_18 : decode cX10_insert 18 = .ok (.invokevirtual 165, 3) := by decide +kernel
theorem dX10_insert_21 : decode cX10_insert 21 = .ok (.bipush 60, 2) := by decide +kernel
theorem dX10_insert_23 : decode cX10_insert 23 = .ok (.if_icmp .ne 6, 3) := by decide +kernel
theorem dX10_insert_26 : decode cX10_insert 26 = .ok (.bipush (-3), 2) := by decide +kernel
theorem dX10_insert_28 : decode cX10_insert 28 = .ok (.ireturn, 1) := by decide +kernel
theorem dX10_insert_29 : decode cX10_insert 29 = .ok (.aload_n 0, 1) := by decide +kernel
theorem dX10_insert_30 : decode cX10_insert 30 = .ok (.invokevirtual 240, 3) := by decide +kernel
theorem dX10_insert_33 : decode cX10_insert 33 = .ok (.aload_n 0, 1) := by decide +kernel
theorem dX10_insert_34 : decode cX10_insert 34 = .ok (.iload_n 1, 1) := by decide +kernel
theorem dX10_insert_35 : decode cX10_insert 35 = .ok (.iload_n 2, 1) := by decide +kernel
theorem dX10_insert_36 : decode cX10_insert 36 = .ok (.invokevirtual 243, 3) := by decide +kernel
theorem dX10_insert_39 : decode cX10_insert 39 = .ok (.aload_n 0, 1) := by decide +kernel
theorem dX10_insert_40 : decode cX10_insert 40 = .ok (.invokevirtual 165, 3) := by decide +kernel
theorem dX10_insert_43 : decode cX10_insert 43 = .ok (.ireturn, 1) := by decide +kernel
theorem dX10_isPart_0 : decode cX10_isPart 0 = .ok (.iload_n 2, 1) := by decide +kernel
theorem dX10_isPart_1 : decode cX10_isPart 1 = .ok (.ifCond .le 25, 3) := by decide +kernel
theorem dX10_isPart_4 : decode cX10_isPart 4 = .ok (.iload_n 1, 1) := by decide +kernel
theorem dX10_isPart_5 : decode cX10_isPart 5 = .ok (.ifCond .lt 21, 3) := by decide +kernel
theorem dX10_isPart_8 : decode cX10_isPart 8 = .ok (.iload_n 1, 1) := by decide +kernel
theorem dX10_isPart_9 : decode cX10_isPart 9 = .ok (.i2l, 1) := by decide +kernel
theorem dX10_isPart_10 : decode cX10_isPart 10 = .ok (.iload_n 2, 1) := by decide +kernel
theorem dX10_isPart_11 : decode cX10_isPart 11 = .ok (.i2l, 1) := by decide +kernel
theorem dX10_isPart_12 : decode cX10_isPart 12 = .ok (.ladd, 1) := by decide +kernel
theorem dX10_isPart_13 : decode cX10_isPart 13 = .ok (.aload_n 0, 1) := by decide +kernel
theorem dX10_isPart_14 : decode cX10_isPart 14 = .ok (.invokevirtual 165, 3) := by decide +kernel
theorem dX10_isPart_17 : decode cX10_isPart 17 = .ok (.i2l, 1) := by decide +kernel
theorem dX10_isPart_18 : decode cX10_isPart 18 = .ok (.lcmp, 1) := by decide +kernel
theorem dX10_isPart_19 : decode cX10_isPart 19 = .ok (.ifCond .gt 7, 3) := by decide +kernel
theorem dX10_isPart_22 : decode cX10_isPart 22 = .ok (.iconst 1, 1) := by decide +kernel
theorem dX10_isPart_23 : decode cX10_isPart 23 = .ok (.goto 4, 3) := by decide +kernel
theorem dX10_isPart_26 : decode cX10_isPart 26 = .ok (.iconst 0, 1) := by decide +kernel
theorem dX10_isPart_27 : decode cX10_isPart 27 = .ok (.ireturn, 1) := by decide +kernel
theorem dX10_goes_0 : decode cX10_goes 0 = .ok (.iload_n 1, 1) := by decide +kernel
theorem dX10_goes_1 : decode cX10_goes 1 = .ok (.istore_n 3, 1) := by decide +kernel
theorem dX10_goes_2 : decode cX10_goes 2 = .ok (.iload_n 3, 1) := by decide +kernel
theorem dX10_goes_3 : decode cX10_goes 3 = .ok (.iload_n 2, 1) := by decide +kernel
theorem dX10_goes_4 : decode cX10_goes 4 = .ok (.iadd, 1) := by decide +kernel
theorem dX10_goes_5 : decode cX10_goes 5 = .ok (.aload_n 0, 1) := by decide +kernel
theorem dX10_goes_6 : decode cX10_goes 6 = .ok (.invokevirtual 165, 3) := by decide +kernel
theorem dX10_goes_9 : decode cX10_goes 9 = .ok (.if_icmp .ge 23, 3) := by decide +kernel
theorem dX10_goes_12 : decode cX10_goes 12 = .ok (.aload_n 0, 1) := by decide +kernel
theorem dX10_goes_13 : decode cX10_goes 13 = .ok (.getfield 7, 3) := by decide +kernel
theorem dX10_goes_16 : decode cX10_goes 16 = .ok (.iload_n 3, 1) := by decide +kernel
theorem dX10_goes_17 : decode cX10_goes 17 = .ok (.aload_n 0, 1) := by decide +kernel
theorem dX10_goes_18 : decode cX10_goes 18 = .ok (.getfield 7, 3) := by decide +kernel
theorem dX10_goes_21 : decode cX10_goes 21 = .ok (.iload_n 3, 1) := by decide +kernel
theorem dX10_goes_22 : decode cX10_goes 22 = .ok (.iload_n 2, 1) := by decide +kernel
theorem dX10_goes_23 : decode cX10_goes 23 = .ok (.iadd, 1) := by decide +kernel
theorem dX10_goes_24 : decode cX10_goes 24 = .ok (.iaload, 1) := by decide +kernel
theorem dX10_goes_25 : decode cX10_goes 25 = .ok (.iastore, 1) := by decide +kernel
theorem dX10_goes_26 : decode cX10_goes 26 = .ok (.iinc 3 1, 3) := by decide +kernel
theorem dX10_goes_29 : decode cX10_goes 29 = .ok (.goto (-27), 3) := by decide +kernel
theorem dX10_goes_32 : decode cX10_goes 32 = .ok (.aload_n 0, 1) := by decide +kernel
theorem dX10_goes_33 : decode cX10_goes 33 = .ok (.getfield 7, 3) := by decide +kernel
theorem dX10_goes_36 : decode cX10_goes 36 = .ok (.bipush 60, 2) := by decide +kernel
theorem dX10_goes_38 : decode cX10_goes 38 = .ok (.dup2, 1) := by decide +kernel
theorem dX10_goes_39 : decode cX10_goes 39 = .ok (.iaload, 1) := by decide +kernel
theorem dX10_goes_40 : decode cX10_goes 40 = .ok (.iload_n 2, 1) := by decide +kernel
theorem dX10_goes_41 : decode cX10_goes 41 = .ok (.isub, 1) := by decide +kernel
theorem dX10_goes_42 : decode cX10_goes 42 = .ok (.iastore, 1) := by decide +kernel
theorem dX10_goes_43 : decode cX10_goes 43 = .ok (.return_, 1) := by decide +kernel
theorem dX10_drop_0 : decode cX10_drop 0 = .ok (.aload_n 0, 1) := by decide +kernel
theorem dX10_drop_1 : decode cX10_drop 1 = .ok (.iload_n 1, 1) := by decide +kernel
theorem dX10_drop_2 : decode cX10_drop 2 = .ok (.iload_n 2, 1) := by decide +kernel
theorem dX10_drop_3 : decode cX10_drop 3 = .ok (.invokevirtual 246, 3) := by decide +kernel
theorem dX10_drop_6 : decode cX10_drop 6 = .ok (.ifCond .ne 5, 3) := by decide +kernel
theorem dX10_drop_9 : decode cX10_drop 9 = .ok (.iconst (-1), 1) := by decide +kernel
theorem dX10_drop_10 : decode cX10_drop 10 = .ok (.ireturn, 1) := by decide +kernel
theorem dX10_drop_11 : decode cX10_drop 11 = .ok (.aload_n 0, 1) := by decide +kernel
theorem dX10_drop_12 : decode cX10_drop 12 = .ok (.invokevirtual 240, 3) := by decide +kernel
theorem dX10_drop_15 : decode cX10_drop 15 = .ok (.aload_n 0, 1) := by decide +kernel
theorem dX10_drop_16 : decode cX10_drop 16 = .ok (.iload_n 1, 1) := by decide +kernel
theorem dX10_drop_17 : decode cX10_drop 17 = .ok (.iload_n 2, 1) := by decide +kernel
theorem dX10_drop_18 : decode cX10_drop 18 = .ok (.invokevirtual 249, 3) := by decide +kernel
theorem dX10_drop_21 : decode cX10_drop 21 = .ok (.aload_n 0, 1) := by decide +kernel
theorem dX10_drop_22 : decode cX10_drop 22 = .ok (.invokevirtual 165, 3) := by decide +kernel
theorem dX10_drop_25 : decode cX10_drop 25 = .ok (.ireturn, 1) := by decide +kernel
theorem dX10_lifts_0 : decode cX10_lifts 0 = .ok (.iconst 0, 1) := by decide +kernel
theorem dX10_lifts_1 : decode cX10_lifts 1 = .ok (.istore_n 3, 1) := by decide +kernel
theorem dX10_lifts_2 : decode cX10_lifts 2 = .ok (.iload_n 3, 1) := by decide +kernel
theorem dX10_lifts_3 : decode cX10_lifts 3 = .ok (.iload_n 2, 1) := by decide +kernel
theorem dX10_lifts_4 : decode cX10_lifts 4 = .ok (.if_icmp .ge 23, 3) := by decide +kernel
theorem dX10_lifts_7 : decode cX10_lifts 7 = .ok (.aload_n 0, 1) := by decide +kernel
theorem dX10_lifts_8 : decode cX10_lifts 8 = .ok (.getfield 43, 3) := by decide +kernel
theorem dX10_lifts_11 : decode cX10_lifts 11 = .ok (.iload_n 3, 1) := by decide +kernel
theorem dX10_lifts_12 : decode cX10_lifts 12 = .ok (.aload_n 0, 1) := by decide +kernel
theorem dX10_lifts_13 : decode cX10_lifts 13 = .ok (.getfield 7, 3) := by decide +kernel
theorem dX10_lifts_16 : decode cX10_lifts 16 = .ok (.iload_n 1, 1) := by decide +kernel
theorem dX10_lifts_17 : decode cX10_lifts 17 = .ok (.iload_n 3, 1) := by decide +kernel
theorem dX10_lifts_18 : decode cX10_lifts 18 = .ok (.iadd, 1) := by decide +kernel
theorem dX10_lifts_19 : decode cX10_lifts 19 = .ok (.iaload, 1) := by decide +kernel
theorem dX10_lifts_20 : decode cX10_lifts 20 = .ok (.iastore, 1) := by decide +kernel
theorem dX10_lifts_21 : decode cX10_lifts 21 = .ok (.iinc 3 1, 3) := by decide +kernel
theorem dX10_lifts_24 : decode cX10_lifts 24 = .ok (.goto (-22), 3) := by decide +kernel
theorem dX10_lifts_27 : decode cX10_lifts 27 = .ok (.return_, 1) := by decide +kernel
theorem dX10_laysDown_0 : decode cX10_laysDown 0 = .ok (.iconst 0, 1) := by decide +kernel
theorem dX10_laysDown_1 : decode cX10_laysDown 1 = .ok (.istore_n 3, 1) := by decide +kernel
theorem dX10_laysDown_2 : decode cX10_laysDown 2 = .ok (.iload_n 3, 1) := by decide +kernel
theorem dX10_laysDown_3 : decode cX10_laysDown 3 = .ok (.iload_n 1, 1) := by decide +kernel
theorem dX10_laysDown_4 : decode cX10_laysDown 4 = .ok (.if_icmp .ge 22, 3) := by decide +kernel
theorem dX10_laysDown_7 : decode cX10_laysDown 7 = .ok (.aload_n 0, 1) := by decide +kernel
theorem dX10_laysDown_8 : decode cX10_laysDown 8 = .ok (.iload_n 2, 1) := by decide +kernel
theorem dX10_laysDown_9 : decode cX10_laysDown 9 = .ok (.iload_n 3, 1) := by decide +kernel
theorem dX10_laysDown_10 : decode cX10_laysDown 10 = .ok (.iadd, 1) := by decide +kernel
theorem dX10_laysDown_11 : decode cX10_laysDown 11 = .ok (.aload_n 0, 1) := by decide +kernel
theorem dX10_laysDown_12 : decode cX10_laysDown 12 = .ok (.getfield 43, 3) := by decide +kernel
theorem dX10_laysDown_15 : decode cX10_laysDown 15 = .ok (.iload_n 3, 1) := by decide +kernel
theorem dX10_laysDown_16 : decode cX10_laysDown 16 = .ok (.iaload, 1) := by decide +kernel
theorem dX10_laysDown_17 : decode cX10_laysDown 17 = .ok (.invokevirtual 243, 3) := by decide +kernel
theorem dX10_laysDown_20 : decode cX10_laysDown 20 = .ok (.iinc 3 1, 3) := by decide +kernel
theorem dX10_laysDown_23 : decode cX10_laysDown 23 = .ok (.goto (-21), 3) := by decide +kernel
theorem dX10_laysDown_26 : decode cX10_laysDown 26 = .ok (.return_, 1) := by decide +kernel
theorem dX10_move_0 : decode cX10_move 0 = .ok (.aload_n 0, 1) := by decide +kernel
theorem dX10_move_1 : decode cX10_move 1 = .ok (.iload_n 1, 1) := by decide +kernel
theorem dX10_move_2 : decode cX10_move 2 = .ok (.iload_n 2, 1) := by decide +kernel
theorem dX10_move_3 : decode cX10_move 3 = .ok (.invokevirtual 246, 3) := by decide +kernel
theorem dX10_move_6 : decode cX10_move 6 = .ok (.ifCond .eq 23, 3) := by decide +kernel
theorem dX10_move_9 : decode cX10_move 9 = .ok (.aload_n 0, 1) := by decide +kernel
theorem dX10_move_10 : decode cX10_move 10 = .ok (.iload_n 3, 1) := by decide +kernel
theorem dX10_move_11 : decode cX10_move 11 = .ok (.invokevirtual 225, 3) := by decide +kernel
theorem dX10_move_14 : decode cX10_move 14 = .ok (.ifCond .eq 15, 3) := by decide +kernel
theorem dX10_move_17 : decode cX10_move 17 = .ok (.iload_n 3, 1) := by decide +kernel
theorem dX10_move_18 : decode cX10_move 18 = .ok (.iload_n 1, 1) := by decide +kernel
theorem dX10_move_19 : decode cX10_move 19 = .ok (.if_icmp .le 12, 3) := by decide +kernel
theorem dX10_move_22 : decode cX10_move 22 = .ok (.iload_n 3, 1) := by decide +kernel
theorem dX10_move_23 : decode cX10_move 23 = .ok (.iload_n 1, 1) := by decide +kernel
theorem dX10_move_24 : decode cX10_move 24 = .ok (.iload_n 2, 1) := by decide +kernel
theorem dX10_move_25 : decode cX10_move 25 = .ok (.iadd, 1) := by decide +kernel
theorem dX10_move_26 : decode cX10_move 26 = .ok (.if_icmp .ge 5, 3) := by decide +kernel
theorem dX10_move_29 : decode cX10_move 29 = .ok (.iconst (-1), 1) := by decide +kernel
theorem dX10_move_30 : decode cX10_move 30 = .ok (.ireturn, 1) := by decide +kernel
theorem dX10_move_31 : decode cX10_move 31 = .ok (.aload_n 0, 1) := by decide +kernel
theorem dX10_move_32 : decode cX10_move 32 = .ok (.invokevirtual 240, 3) := by decide +kernel
theorem dX10_move_35 : decode cX10_move 35 = .ok (.aload_n 0, 1) := by decide +kernel
theorem dX10_move_36 : decode cX10_move 36 = .ok (.iload_n 1, 1) := by decide +kernel
theorem dX10_move_37 : decode cX10_move 37 = .ok (.iload_n 2, 1) := by decide +kernel
theorem dX10_move_38 : decode cX10_move 38 = .ok (.invokevirtual 252, 3) := by decide +kernel
theorem dX10_move_41 : decode cX10_move 41 = .ok (.aload_n 0, 1) := by decide +kernel
theorem dX10_move_42 : decode cX10_move 42 = .ok (.iload_n 1, 1) := by decide +kernel
theorem dX10_move_43 : decode cX10_move 43 = .ok (.iload_n 2, 1) := by decide +kernel
theorem dX10_move_44 : decode cX10_move 44 = .ok (.invokevirtual 249, 3) := by decide +kernel
theorem dX10_move_47 : decode cX10_move 47 = .ok (.aload_n 0, 1) := by decide +kernel
theorem dX10_move_48 : decode cX10_move 48 = .ok (.iload_n 2, 1) := by decide +kernel
theorem dX10_move_49 : decode cX10_move 49 = .ok (.iload_n 3, 1) := by decide +kernel
theorem dX10_move_50 : decode cX10_move 50 = .ok (.iload_n 1, 1) := by decide +kernel
theorem dX10_move_51 : decode cX10_move 51 = .ok (.if_icmp .le 9, 3) := by decide +kernel
theorem dX10_move_54 : decode cX10_move 54 = .ok (.iload_n 3, 1) := by decide +kernel
theorem dX10_move_55 : decode cX10_move 55 = .ok (.iload_n 2, 1) := by decide +kernel
theorem dX10_move_56 : decode cX10_move 56 = .ok (.isub, 1) := by decide +kernel
theorem dX10_move_57 : decode cX10_move 57 = .ok (.goto 4, 3) := by decide +kernel
theorem dX10_move_60 : decode cX10_move 60 = .ok (.iload_n 3, 1) := by decide +kernel
theorem dX10_move_61 : decode cX10_move 61 = .ok (.invokevirtual 255, 3) := by decide +kernel
theorem dX10_move_64 : decode cX10_move 64 = .ok (.iconst 1, 1) := by decide +kernel
theorem dX10_move_65 : decode cX10_move 65 = .ok (.ireturn, 1) := by decide +kernel
theorem dX10_copy_0 : decode cX10_copy 0 = .ok (.aload_n 0, 1) := by decide +kernel
theorem dX10_copy_1 : decode cX10_copy 1 = .ok (.iload_n 1, 1) := by decide +kernel
theorem dX10_copy_2 : decode cX10_copy 2 = .ok (.iload_n 2, 1) := by decide +kernel
theorem dX10_copy_3 : decode cX10_copy 3 = .ok (.invokevirtual 246, 3) := by decide +kernel
theorem dX10_copy_6 : decode cX10_copy 6 = .ok (.ifCond .eq 11, 3) := by decide +kernel
theorem dX10_copy_9 : decode cX10_copy 9 = .ok (.aload_n 0, 1) := by decide +kernel
theorem dX10_copy_10 : decode cX10_copy 10 = .ok (.iload_n 3, 1) := by decide +kernel
theorem dX10_copy_11 : decode cX10_copy 11 = .ok (.invokevirtual 225, 3) := by decide +kernel
theorem dX10_copy_14 : decode cX10_copy 14 = .ok (.ifCond .ne 5, 3) := by decide +kernel
theorem dX10_copy_17 : decode cX10_copy 17 = .ok (.iconst (-1), 1) := by decide +kernel
theorem dX10_copy_18 : decode cX10_copy 18 = .ok (.ireturn, 1) := by decide +kernel
theorem dX10_copy_19 : decode cX10_copy 19 = .ok (.aload_n 0, 1) := by decide +kernel
theorem dX10_copy_20 : decode cX10_copy 20 = .ok (.invokevirtual 165, 3) := by decide +kernel
theorem dX10_copy_23 : decode cX10_copy 23 = .ok (.iload_n 2, 1) := by decide +kernel
theorem dX10_copy_24 : decode cX10_copy 24 = .ok (.iadd, 1) := by decide +kernel
theorem dX10_copy_25 : decode cX10_copy 25 = .ok (.bipush 60, 2) := by decide +kernel
theorem dX10_copy_27 : decode cX10_copy 27 = .ok (.if_icmp .le 6, 3) := by decide +kernel
theorem dX10_copy_30 : decode cX10_copy 30 = .ok (.bipush (-3), 2) := by decide +kernel
theorem dX10_copy_32 : decode cX10_copy 32 = .ok (.ireturn, 1) := by decide +kernel
theorem dX10_copy_33 : decode cX10_copy 33 = .ok (.aload_n 0, 1) := by decide +kernel
theorem dX10_copy_34 : decode cX10_copy 34 = .ok (.invokevirtual 240, 3) := by decide +kernel
theorem dX10_copy_37 : decode cX10_copy 37 = .ok (.aload_n 0, 1) := by decide +kernel
theorem dX10_copy_38 : decode cX10_copy 38 = .ok (.iload_n 1, 1) := by decide +kernel
theorem dX10_copy_39 : decode cX10_copy 39 = .ok (.iload_n 2, 1) := by decide +kernel
theorem dX10_copy_40 : decode cX10_copy 40 = .ok (.invokevirtual 252, 3) := by decide +kernel
theorem dX10_copy_43 : decode cX10_copy 43 = .ok (.aload_n 0, 1) := by decide +kernel
theorem dX10_copy_44 : decode cX10_copy 44 = .ok (.iload_n 2, 1) := by decide +kernel
theorem dX10_copy_45 : decode cX10_copy 45 = .ok (.iload_n 3, 1) := by decide +kernel
theorem dX10_copy_46 : decode cX10_copy 46 = .ok (.invokevirtual 255, 3) := by decide +kernel
theorem dX10_copy_49 : decode cX10_copy 49 = .ok (.aload_n 0, 1) := by decide +kernel
theorem dX10_copy_50 : decode cX10_copy 50 = .ok (.invokevirtual 165, 3) := by decide +kernel
theorem dX10_copy_53 : decode cX10_copy 53 = .ok (.ireturn, 1) := by decide +kernel
theorem dX10_turned_0 : decode cX10_turned 0 = .ok (.iload_n 0, 1) := by decide +kernel
theorem dX10_turned_1 : decode cX10_turned 1 = .ok (.lookupswitch 77 #[(40, 59), (41, 62), (91, 65), (93, 68), (123, 71), (125, 74)], 59) := by decide +kernel
theorem dX10_turned_60 : decode cX10_turned 60 = .ok (.bipush 41, 2) := by decide +kernel
theorem dX10_turned_62 : decode cX10_turned 62 = .ok (.ireturn, 1) := by decide +kernel
theorem dX10_turned_63 : decode cX10_turned 63 = .ok (.bipush 40, 2) := by decide +kernel
theorem dX10_turned_65 : decode cX10_turned 65 = .ok (.ireturn, 1) := by decide +kernel
theorem dX10_turned_66 : decode cX10_turned 66 = .ok (.bipush 93, 2) := by decide +kernel
theorem dX10_turned_68 : decode cX10_turned 68 = .ok (.ireturn, 1) := by decide +kernel
theorem dX10_turned_69 : decode cX10_turned 69 = .ok (.bipush 91, 2) := by decide +kernel
theorem dX10_turned_71 : decode cX10_turned 71 = .ok (.ireturn, 1) := by decide +kernel
theorem dX10_turned_72 : decode cX10_turned 72 = .ok (.bipush 125, 2) := by decide +kernel
theorem dX10_turned_74 : decode cX10_turned 74 = .ok (.ireturn, 1) := by decide +kernel
theorem dX10_turned_75 : decode cX10_turned 75 = .ok (.bipush 123, 2) := by decide +kernel
theorem dX10_turned_77 : decode cX10_turned 77 = .ok (.ireturn, 1) := by decide +kernel
theorem dX10_turned_78 : decode cX10_turned 78 = .ok (.iload_n 0, 1) := by decide +kernel
theorem dX10_turned_79 : decode cX10_turned 79 = .ok (.ireturn, 1) := by decide +kernel
theorem dX10_turn_0 : decode cX10_turn 0 = .ok (.aload_n 0, 1) := by decide +kernel
theorem dX10_turn_1 : decode cX10_turn 1 = .ok (.iload_n 1, 1) := by decide +kernel
theorem dX10_turn_2 : decode cX10_turn 2 = .ok (.iload_n 2, 1) := by decide +kernel
theorem dX10_turn_3 : decode cX10_turn 3 = .ok (.invokevirtual 246, 3) := by decide +kernel
theorem dX10_turn_6 : decode cX10_turn 6 = .ok (.ifCond .ne 5, 3) := by decide +kernel
theorem dX10_turn_9 : decode cX10_turn 9 = .ok (.iconst (-1), 1) := by decide +kernel
theorem dX10_turn_10 : decode cX10_turn 10 = .ok (.ireturn, 1) := by decide +kernel
theorem dX10_turn_11 : decode cX10_turn 11 = .ok (.aload_n 0, 1) := by decide +kernel
theorem dX10_turn_12 : decode cX10_turn 12 = .ok (.invokevirtual 240, 3) := by decide +kernel
theorem dX10_turn_15 : decode cX10_turn 15 = .ok (.aload_n 0, 1) := by decide +kernel
theorem dX10_turn_16 : decode cX10_turn 16 = .ok (.iload_n 1, 1) := by decide +kernel
theorem dX10_turn_17 : decode cX10_turn 17 = .ok (.iload_n 2, 1) := by decide +kernel
theorem dX10_turn_18 : decode cX10_turn 18 = .ok (.invokevirtual 252, 3) := by decide +kernel
theorem dX10_turn_21 : decode cX10_turn 21 = .ok (.iconst 0, 1) := by decide +kernel
theorem dX10_turn_22 : decode cX10_turn 22 = .ok (.istore_n 3, 1) := by decide +kernel
theorem dX10_turn_23 : decode cX10_turn 23 = .ok (.iconst 0, 1) := by decide +kernel
theorem dX10_turn_24 : decode cX10_turn 24 = .ok (.istore 4, 2) := by decide +kernel
theorem dX10_turn_26 : decode cX10_turn 26 = .ok (.iload 4, 2) := by decide +kernel
theorem dX10_turn_28 : decode cX10_turn 28 = .ok (.iload_n 2, 1) := by decide +kernel
theorem dX10_turn_29 : decode cX10_turn 29 = .ok (.if_icmp .ge 58, 3) := by decide +kernel
theorem dX10_turn_32 : decode cX10_turn 32 = .ok (.aload_n 0, 1) := by decide +kernel
theorem dX10_turn_33 : decode cX10_turn 33 = .ok (.getfield 43, 3) := by decide +kernel
theorem dX10_turn_36 : decode cX10_turn 36 = .ok (.iload_n 2, 1) := by decide +kernel
theorem dX10_turn_37 : decode cX10_turn 37 = .ok (.iconst 1, 1) := by decide +kernel
theorem dX10_turn_38 : decode cX10_turn 38 = .ok (.isub, 1) := by decide +kernel
theorem dX10_turn_39 : decode cX10_turn 39 = .ok (.iload 4, 2) := by decide +kernel
theorem dX10_turn_41 : decode cX10_turn 41 = .ok (.isub, 1) := by decide +kernel
theorem dX10_turn_42 : decode cX10_turn 42 = .ok (.iaload, 1) := by decide +kernel
theorem dX10_turn_43 : decode cX10_turn 43 = .ok (.sipush 128, 3) := by decide +kernel
theorem dX10_turn_46 : decode cX10_turn 46 = .ok (.irem, 1) := by decide +kernel
theorem dX10_turn_47 : decode cX10_turn 47 = .ok (.istore 5, 2) := by decide +kernel
theorem dX10_turn_49 : decode cX10_turn 49 = .ok (.iload_n 3, 1) := by decide +kernel
theorem dX10_turn_50 : decode cX10_turn 50 = .ok (.iload 5, 2) := by decide +kernel
theorem dX10_turn_52 : decode cX10_turn 52 = .ok (.invokestatic 78, 3) := by decide +kernel
theorem dX10_turn_55 : decode cX10_turn 55 = .ok (.bipush (-4), 2) := by decide +kernel
theorem dX10_turn_57 : decode cX10_turn 57 = .ok (.if_icmp .ne 7, 3) := by decide +kernel
theorem dX10_turn_60 : decode cX10_turn 60 = .ok (.iconst 0, 1) := by decide +kernel
theorem dX10_turn_61 : decode cX10_turn 61 = .ok (.goto 4, 3) := by decide +kernel
theorem dX10_turn_64 : decode cX10_turn 64 = .ok (.iconst 1, 1) := by decide +kernel
theorem dX10_turn_65 : decode cX10_turn 65 = .ok (.iadd, 1) := by decide +kernel
theorem dX10_turn_66 : decode cX10_turn 66 = .ok (.istore_n 3, 1) := by decide +kernel
theorem dX10_turn_67 : decode cX10_turn 67 = .ok (.aload_n 0, 1) := by decide +kernel
theorem dX10_turn_68 : decode cX10_turn 68 = .ok (.getfield 7, 3) := by decide +kernel
theorem dX10_turn_71 : decode cX10_turn 71 = .ok (.iload_n 1, 1) := by decide +kernel
theorem dX10_turn_72 : decode cX10_turn 72 = .ok (.iload 4, 2) := by decide +kernel
theorem dX10_turn_74 : decode cX10_turn 74 = .ok (.iadd, 1) := by decide +kernel
theorem dX10_turn_75 : decode cX10_turn 75 = .ok (.iload 5, 2) := by decide +kernel
theorem dX10_turn_77 : decode cX10_turn 77 = .ok (.invokestatic 258, 3) := by decide +kernel
theorem dX10_turn_80 : decode cX10_turn 80 = .ok (.iastore, 1) := by decide +kernel
theorem dX10_turn_81 : decode cX10_turn 81 = .ok (.iinc 4 1, 3) := by decide +kernel
theorem dX10_turn_84 : decode cX10_turn 84 = .ok (.goto (-58), 3) := by decide +kernel
theorem dX10_turn_87 : decode cX10_turn 87 = .ok (.iload_n 3, 1) := by decide +kernel
theorem dX10_turn_88 : decode cX10_turn 88 = .ok (.ireturn, 1) := by decide +kernel
theorem dX10_mark_0 : decode cX10_mark 0 = .ok (.aload_n 0, 1) := by decide +kernel
theorem dX10_mark_1 : decode cX10_mark 1 = .ok (.iload_n 1, 1) := by decide +kernel
theorem dX10_mark_2 : decode cX10_mark 2 = .ok (.invokevirtual 219, 3) := by decide +kernel
theorem dX10_mark_5 : decode cX10_mark 5 = .ok (.ifCond .eq 24, 3) := by decide +kernel
theorem dX10_mark_8 : decode cX10_mark 8 = .ok (.aload_n 0, 1) := by decide +kernel
theorem dX10_mark_9 : decode cX10_mark 9 = .ok (.iload_n 1, 1) := by decide +kernel
theorem dX10_mark_10 : decode cX10_mark 10 = .ok (.invokevirtual 170, 3) := by decide +kernel
theorem dX10_mark_13 : decode cX10_mark 13 = .ok (.invokestatic 142, 3) := by decide +kernel
theorem dX10_mark_16 : decode cX10_mark 16 = .ok (.ifCond .eq 13, 3) := by decide +kernel
theorem dX10_mark_19 : decode cX10_mark 19 = .ok (.iload_n 2, 1) := by decide +kernel
theorem dX10_mark_20 : decode cX10_mark 20 = .ok (.i2l, 1) := by decide +kernel
theorem dX10_mark_21 : decode cX10_mark 21 = .ok (.lconst 0, 1) := by decide +kernel
theorem dX10_mark_22 : decode cX10_mark 22 = .ok (.lconst 1, 1) := by decide +kernel
theorem dX10_mark_23 : decode cX10_mark 23 = .ok (.invokestatic 61, 3) := by decide +kernel
theorem dX10_mark_26 : decode cX10_mark 26 = .ok (.ifCond .ne 5, 3) := by decide +kernel
theorem dX10_mark_29 : decode cX10_mark 29 = .ok (.iconst (-1), 1) := by decide +kernel
theorem dX10_mark_30 : decode cX10_mark 30 = .ok (.ireturn, 1) := by decide +kernel
theorem dX10_mark_31 : decode cX10_mark 31 = .ok (.aload_n 0, 1) := by decide +kernel
theorem dX10_mark_32 : decode cX10_mark 32 = .ok (.invokevirtual 240, 3) := by decide +kernel
theorem dX10_mark_35 : decode cX10_mark 35 = .ok (.aload_n 0, 1) := by decide +kernel
theorem dX10_mark_36 : decode cX10_mark 36 = .ok (.iload_n 1, 1) := by decide +kernel
theorem dX10_mark_37 : decode cX10_mark 37 = .ok (.invokevirtual 180, 3) := by decide +kernel
theorem dX10_mark_40 : decode cX10_mark 40 = .ok (.ifCond .eq 7, 3) := by decide +kernel
theorem dX10_mark_43 : decode cX10_mark 43 = .ok (.iconst 1, 1) := by decide +kernel
theorem dX10_mark_44 : decode cX10_mark 44 = .ok (.goto 4, 3) := by decide +kernel
theorem dX10_mark_47 : decode cX10_mark 47 = .ok (.iconst 0, 1) := by decide +kernel
theorem dX10_mark_48 : decode cX10_mark 48 = .ok (.istore_n 3, 1) := by decide +kernel
theorem dX10_mark_49 : decode cX10_mark 49 = .ok (.aload_n 0, 1) := by decide +kernel
theorem dX10_mark_50 : decode cX10_mark 50 = .ok (.getfield 7, 3) := by decide +kernel
theorem dX10_mark_53 : decode cX10_mark 53 = .ok (.iload_n 1, 1) := by decide +kernel
theorem dX10_mark_54 : decode cX10_mark 54 = .ok (.aload_n 0, 1) := by decide +kernel
theorem dX10_mark_55 : decode cX10_mark 55 = .ok (.iload_n 1, 1) := by decide +kernel
theorem dX10_mark_56 : decode cX10_mark 56 = .ok (.invokevirtual 170, 3) := by decide +kernel
theorem dX10_mark_59 : decode cX10_mark 59 = .ok (.sipush 128, 3) := by decide +kernel
theorem dX10_mark_62 : decode cX10_mark 62 = .ok (.iload_n 2, 1) := by decide +kernel
theorem dX10_mark_63 : decode cX10_mark 63 = .ok (.imul, 1) := by decide +kernel
theorem dX10_mark_64 : decode cX10_mark 64 = .ok (.iadd, 1) := by decide +kernel
theorem dX10_mark_65 : decode cX10_mark 65 = .ok (.iastore, 1) := by decide +kernel
theorem dX10_mark_66 : decode cX10_mark 66 = .ok (.iload_n 3, 1) := by decide +kernel
theorem dX10_mark_67 : decode cX10_mark 67 = .ok (.ireturn, 1) := by decide +kernel
theorem dX10_drawn_0 : decode cX10_drawn 0 = .ok (.iload_n 0, 1) := by decide +kernel
theorem dX10_drawn_1 : decode cX10_drawn 1 = .ok (.tableswitch 71 0 7 #[47, 50, 53, 56, 59, 62, 65, 68], 47) := by decide +kernel
theorem dX10_drawn_48 : decode cX10_drawn 48 = .ok (.bipush 40, 2) := by decide +kernel
theorem dX10_drawn_50 : decode cX10_drawn 50 = .ok (.ireturn, 1) := by decide +kernel
theorem dX10_drawn_51 : decode cX10_drawn 51 = .ok (.bipush 41, 2) := by decide +kernel
theorem dX10_drawn_53 : decode cX10_drawn 53 = .ok (.ireturn, 1) := by decide +kernel
theorem dX10_drawn_54 : decode cX10_drawn 54 = .ok (.bipush 91, 2) := by decide +kernel
theorem dX10_drawn_56 : decode cX10_drawn 56 = .ok (.ireturn, 1) := by decide +kernel
theorem dX10_drawn_57 : decode cX10_drawn 57 = .ok (.bipush 93, 2) := by decide +kernel
theorem dX10_drawn_59 : decode cX10_drawn 59 = .ok (.ireturn, 1) := by decide +kernel
theorem dX10_drawn_60 : decode cX10_drawn 60 = .ok (.bipush 123, 2) := by decide +kernel
theorem dX10_drawn_62 : decode cX10_drawn 62 = .ok (.ireturn, 1) := by decide +kernel
theorem dX10_drawn_63 : decode cX10_drawn 63 = .ok (.bipush 125, 2) := by decide +kernel
theorem dX10_drawn_65 : decode cX10_drawn 65 = .ok (.ireturn, 1) := by decide +kernel
theorem dX10_drawn_66 : decode cX10_drawn 66 = .ok (.bipush 97, 2) := by decide +kernel
theorem dX10_drawn_68 : decode cX10_drawn 68 = .ok (.ireturn, 1) := by decide +kernel
theorem dX10_drawn_69 : decode cX10_drawn 69 = .ok (.bipush 122, 2) := by decide +kernel
theorem dX10_drawn_71 : decode cX10_drawn 71 = .ok (.ireturn, 1) := by decide +kernel
theorem dX10_drawn_72 : decode cX10_drawn 72 = .ok (.bipush 47, 2) := by decide +kernel
theorem dX10_drawn_74 : decode cX10_drawn 74 = .ok (.ireturn, 1) := by decide +kernel
theorem dX10_grow_0 : decode cX10_grow 0 = .ok (.iload_n 2, 1) := by decide +kernel
theorem dX10_grow_1 : decode cX10_grow 1 = .ok (.i2l, 1) := by decide +kernel
theorem dX10_grow_2 : decode cX10_grow 2 = .ok (.lconst 1, 1) := by decide +kernel
theorem dX10_grow_3 : decode cX10_grow 3 = .ok (.ldc2_w 261, 3) := by decide +kernel
theorem dX10_grow_6 : decode cX10_grow 6 = .ok (.invokestatic 61, 3) := by decide +kernel
theorem dX10_grow_9 : decode cX10_grow 9 = .ok (.ifCond .ne 5, 3) := by decide +kernel
theorem dX10_grow_12 : decode cX10_grow 12 = .ok (.iconst (-1), 1) := by decide +kernel
theorem dX10_grow_13 : decode cX10_grow 13 = .ok (.ireturn, 1) := by decide +kernel
theorem dX10_grow_14 : decode cX10_grow 14 = .ok (.aload_n 0, 1) := by decide +kernel
theorem dX10_grow_15 : decode cX10_grow 15 = .ok (.invokevirtual 240, 3) := by decide +kernel
theorem dX10_grow_18 : decode cX10_grow 18 = .ok (.iload_n 1, 1) := by decide +kernel
theorem dX10_grow_19 : decode cX10_grow 19 = .ok (.istore_n 3, 1) := by decide +kernel
theorem dX10_grow_20 : decode cX10_grow 20 = .ok (.iconst 0, 1) := by decide +kernel
theorem dX10_grow_21 : decode cX10_grow 21 = .ok (.istore 4, 2) := by decide +kernel
theorem dX10_grow_23 : decode cX10_grow 23 = .ok (.iload 4, 2) := by decide +kernel
theorem dX10_grow_25 : decode cX10_grow 25 = .ok (.iload_n 2, 1) := by decide +kernel
theorem dX10_grow_26 : decode cX10_grow 26 = .ok (.if_icmp .ge 62, 3) := by decide +kernel
theorem dX10_grow_29 : decode cX10_grow 29 = .ok (.aload_n 0, 1) := by decide +kernel
theorem dX10_grow_30 : decode cX10_grow 30 = .ok (.invokevirtual 165, 3) := by decide +kernel
theorem dX10_grow_33 : decode cX10_grow 33 = .ok (.bipush 60, 2) := by decide +kernel
theorem dX10_grow_35 : decode cX10_grow 35 = .ok (.if_icmp .ge 53, 3) := by decide +kernel
theorem dX10_grow_38 : decode cX10_grow 38 = .ok (.iload_n 3, 1) := by decide +kernel
theorem dX10_grow_39 : decode cX10_grow 39 = .ok (.ldc_w 263, 3) := by decide +kernel
theorem dX10_grow_42 : decode cX10_grow 42 = .ok (.imul, 1) := by decide +kernel
theorem dX10_grow_43 : decode cX10_grow 43 = .ok (.sipush 12345, 3) := by decide +kernel
theorem dX10_grow_46 : decode cX10_grow 46 = .ok (.iadd, 1) := by decide +kernel
theorem dX10_grow_47 : decode cX10_grow 47 = .ok (.istore_n 3, 1) := by decide +kernel
theorem dX10_grow_48 : decode cX10_grow 48 = .ok (.iload_n 3, 1) := by decide +kernel
theorem dX10_grow_49 : decode cX10_grow 49 = .ok (.bipush 16, 2) := by decide +kernel
theorem dX10_grow_51 : decode cX10_grow 51 = .ok (.ishr, 1) := by decide +kernel
theorem dX10_grow_52 : decode cX10_grow 52 = .ok (.sipush 32767, 3) := by decide +kernel
theorem dX10_grow_55 : decode cX10_grow 55 = .ok (.iand, 1) := by decide +kernel
theorem dX10_grow_56 : decode cX10_grow 56 = .ok (.istore 5, 2) := by decide +kernel
theorem dX10_grow_58 : decode cX10_grow 58 = .ok (.aload_n 0, 1) := by decide +kernel
theorem dX10_grow_59 : decode cX10_grow 59 = .ok (.iload 5, 2) := by decide +kernel
theorem dX10_grow_61 : decode cX10_grow 61 = .ok (.aload_n 0, 1) := by decide +kernel
theorem dX10_grow_62 : decode cX10_grow 62 = .ok (.invokevirtual 165, 3) := by decide +kernel
theorem dX10_grow_65 : decode cX10_grow 65 = .ok (.iconst 1, 1) := by decide +kernel
theorem dX10_grow_66 : decode cX10_grow 66 = .ok (.iadd, 1) := by decide +kernel
theorem dX10_grow_67 : decode cX10_grow 67 = .ok (.irem, 1) := by decide +kernel
theorem dX10_grow_68 : decode cX10_grow 68 = .ok (.iload 5, 2) := by decide +kernel
theorem dX10_grow_70 : decode cX10_grow 70 = .ok (.bipush 64, 2) := by decide +kernel
theorem dX10_grow_72 : decode cX10_grow 72 = .ok (.idiv, 1) := by decide +kernel
theorem dX10_grow_73 : decode cX10_grow 73 = .ok (.bipush 9, 2) := by decide +kernel
theorem dX10_grow_75 : decode cX10_grow 75 = .ok (.irem, 1) := by decide +kernel
theorem dX10_grow_76 : decode cX10_grow 76 = .ok (.invokestatic 264, 3) := by decide +kernel
theorem dX10_grow_79 : decode cX10_grow 79 = .ok (.invokevirtual 243, 3) := by decide +kernel
theorem dX10_grow_82 : decode cX10_grow 82 = .ok (.iinc 4 1, 3) := by decide +kernel
theorem dX10_grow_85 : decode cX10_grow 85 = .ok (.goto (-62), 3) := by decide +kernel
theorem dX10_grow_88 : decode cX10_grow 88 = .ok (.iload 4, 2) := by decide +kernel
theorem dX10_grow_90 : decode cX10_grow 90 = .ok (.ireturn, 1) := by decide +kernel
theorem dX10_undo_0 : decode cX10_undo 0 = .ok (.aload_n 0, 1) := by decide +kernel
theorem dX10_undo_1 : decode cX10_undo 1 = .ok (.getfield 159, 3) := by decide +kernel
theorem dX10_undo_4 : decode cX10_undo 4 = .ok (.ifCond .ne 6, 3) := by decide +kernel
theorem dX10_undo_7 : decode cX10_undo 7 = .ok (.bipush (-2), 2) := by decide +kernel
theorem dX10_undo_9 : decode cX10_undo 9 = .ok (.ireturn, 1) := by decide +kernel
theorem dX10_undo_10 : decode cX10_undo 10 = .ok (.aload_n 0, 1) := by decide +kernel
theorem dX10_undo_11 : decode cX10_undo 11 = .ok (.aload_n 0, 1) := by decide +kernel
theorem dX10_undo_12 : decode cX10_undo 12 = .ok (.getfield 40, 3) := by decide +kernel
theorem dX10_undo_15 : decode cX10_undo 15 = .ok (.aload_n 0, 1) := by decide +kernel
theorem dX10_undo_16 : decode cX10_undo 16 = .ok (.getfield 162, 3) := by decide +kernel
theorem dX10_undo_19 : decode cX10_undo 19 = .ok (.invokevirtual 233, 3) := by decide +kernel
theorem dX10_undo_22 : decode cX10_undo 22 = .ok (.aload_n 0, 1) := by decide +kernel
theorem dX10_undo_23 : decode cX10_undo 23 = .ok (.dup, 1) := by decide +kernel
theorem dX10_undo_24 : decode cX10_undo 24 = .ok (.getfield 162, 3) := by decide +kernel
theorem dX10_undo_27 : decode cX10_undo 27 = .ok (.iconst 1, 1) := by decide +kernel
theorem dX10_undo_28 : decode cX10_undo 28 = .ok (.iadd, 1) := by decide +kernel
theorem dX10_undo_29 : decode cX10_undo 29 = .ok (.putfield 162, 3) := by decide +kernel
theorem dX10_undo_32 : decode cX10_undo 32 = .ok (.aload_n 0, 1) := by decide +kernel
theorem dX10_undo_33 : decode cX10_undo 33 = .ok (.dup, 1) := by decide +kernel
theorem dX10_undo_34 : decode cX10_undo 34 = .ok (.getfield 159, 3) := by decide +kernel
theorem dX10_undo_37 : decode cX10_undo 37 = .ok (.iconst 1, 1) := by decide +kernel
theorem dX10_undo_38 : decode cX10_undo 38 = .ok (.isub, 1) := by decide +kernel
theorem dX10_undo_39 : decode cX10_undo 39 = .ok (.putfield 159, 3) := by decide +kernel
theorem dX10_undo_42 : decode cX10_undo 42 = .ok (.aload_n 0, 1) := by decide +kernel
theorem dX10_undo_43 : decode cX10_undo 43 = .ok (.aload_n 0, 1) := by decide +kernel
theorem dX10_undo_44 : decode cX10_undo 44 = .ok (.getfield 37, 3) := by decide +kernel
theorem dX10_undo_47 : decode cX10_undo 47 = .ok (.aload_n 0, 1) := by decide +kernel
theorem dX10_undo_48 : decode cX10_undo 48 = .ok (.getfield 159, 3) := by decide +kernel
theorem dX10_undo_51 : decode cX10_undo 51 = .ok (.invokevirtual 267, 3) := by decide +kernel
theorem dX10_undo_54 : decode cX10_undo 54 = .ok (.aload_n 0, 1) := by decide +kernel
theorem dX10_undo_55 : decode cX10_undo 55 = .ok (.invokevirtual 165, 3) := by decide +kernel
theorem dX10_undo_58 : decode cX10_undo 58 = .ok (.ireturn, 1) := by decide +kernel
theorem dX10_redo_0 : decode cX10_redo 0 = .ok (.aload_n 0, 1) := by decide +kernel
theorem dX10_redo_1 : decode cX10_redo 1 = .ok (.getfield 162, 3) := by decide +kernel
theorem dX10_redo_4 : decode cX10_redo 4 = .ok (.ifCond .ne 6, 3) := by decide +kernel
theorem dX10_redo_7 : decode cX10_redo 7 = .ok (.bipush (-2), 2) := by decide +kernel
theorem dX10_redo_9 : decode cX10_redo 9 = .ok (.ireturn, 1) := by decide +kernel
theorem dX10_redo_10 : decode cX10_redo 10 = .ok (.aload_n 0, 1) := by decide +kernel
theorem dX10_redo_11 : decode cX10_redo 11 = .ok (.invokevirtual 237, 3) := by decide +kernel
theorem dX10_redo_14 : decode cX10_redo 14 = .ok (.aload_n 0, 1) := by decide +kernel
theorem dX10_redo_15 : decode cX10_redo 15 = .ok (.dup, 1) := by decide +kernel
theorem dX10_redo_16 : decode cX10_redo 16 = .ok (.getfield 162, 3) := by decide +kernel
theorem dX10_redo_19 : decode cX10_redo 19 = .ok (.iconst 1, 1) := by decide +kernel
theorem dX10_redo_20 : decode cX10_redo 20 = .ok (.isub, 1) := by decide +kernel
theorem dX10_redo_21 : decode cX10_redo 21 = .ok (.putfield 162, 3) := by decide +kernel
theorem dX10_redo_24 : decode cX10_redo 24 = .ok (.aload_n 0, 1) := by decide +kernel
theorem dX10_redo_25 : decode cX10_redo 25 = .ok (.aload_n 0, 1) := by decide +kernel
theorem dX10_redo_26 : decode cX10_redo 26 = .ok (.getfield 40, 3) := by decide +kernel
theorem dX10_redo_29 : decode cX10_redo 29 = .ok (.aload_n 0, 1) := by decide +kernel
theorem dX10_redo_30 : decode cX10_redo 30 = .ok (.getfield 162, 3) := by decide +kernel
theorem dX10_redo_33 : decode cX10_redo 33 = .ok (.invokevirtual 267, 3) := by decide +kernel
theorem dX10_redo_36 : decode cX10_redo 36 = .ok (.aload_n 0, 1) := by decide +kernel
theorem dX10_redo_37 : decode cX10_redo 37 = .ok (.invokevirtual 165, 3) := by decide +kernel
theorem dX10_redo_40 : decode cX10_redo 40 = .ok (.ireturn, 1) := by decide +kernel
theorem dX10_keep_0 : decode cX10_keep 0 = .ok (.iload_n 1, 1) := by decide +kernel
theorem dX10_keep_1 : decode cX10_keep 1 = .ok (.i2l, 1) := by decide +kernel
theorem dX10_keep_2 : decode cX10_keep 2 = .ok (.lconst 0, 1) := by decide +kernel
theorem dX10_keep_3 : decode cX10_keep 3 = .ok (.lconst 1, 1) := by decide +kernel
theorem dX10_keep_4 : decode cX10_keep 4 = .ok (.invokestatic 61, 3) := by decide +kernel
theorem dX10_keep_7 : decode cX10_keep 7 = .ok (.ifCond .ne 5, 3) := by decide +kernel
theorem dX10_keep_10 : decode cX10_keep 10 = .ok (.iconst (-1), 1) := by decide +kernel
theorem dX10_keep_11 : decode cX10_keep 11 = .ok (.ireturn, 1) := by decide +kernel
theorem dX10_keep_12 : decode cX10_keep 12 = .ok (.aload_n 0, 1) := by decide +kernel
theorem dX10_keep_13 : decode cX10_keep 13 = .ok (.getfield 46, 3) := by decide +kernel
theorem dX10_keep_16 : decode cX10_keep 16 = .ok (.iload_n 1, 1) := by decide +kernel
theorem dX10_keep_17 : decode cX10_keep 17 = .ok (.baload, 1) := by decide +kernel
theorem dX10_keep_18 : decode cX10_keep 18 = .ok (.ifCond .eq 7, 3) := by decide +kernel
theorem dX10_keep_21 : decode cX10_keep 21 = .ok (.iconst 1, 1) := by decide +kernel
theorem dX10_keep_22 : decode cX10_keep 22 = .ok (.goto 4, 3) := by decide +kernel
theorem dX10_keep_25 : decode cX10_keep 25 = .ok (.iconst 0, 1) := by decide +kernel
theorem dX10_keep_26 : decode cX10_keep 26 = .ok (.istore_n 2, 1) := by decide +kernel
theorem dX10_keep_27 : decode cX10_keep 27 = .ok (.aload_n 0, 1) := by decide +kernel
theorem dX10_keep_28 : decode cX10_keep 28 = .ok (.iconst 0, 1) := by decide +kernel
theorem dX10_keep_29 : decode cX10_keep 29 = .ok (.bipush 61, 2) := by decide +kernel
theorem dX10_keep_31 : decode cX10_keep 31 = .ok (.iload_n 1, 1) := by decide +kernel
theorem dX10_keep_32 : decode cX10_keep 32 = .ok (.imul, 1) := by decide +kernel
theorem dX10_keep_33 : decode cX10_keep 33 = .ok (.bipush 61, 2) := by decide +kernel
theorem dX10_keep_35 : decode cX10_keep 35 = .ok (.iadd, 1) := by decide +kernel
theorem dX10_keep_36 : decode cX10_keep 36 = .ok (.invokevirtual 155, 3) := by decide +kernel
theorem dX10_keep_39 : decode cX10_keep 39 = .ok (.aload_n 0, 1) := by decide +kernel
theorem dX10_keep_40 : decode cX10_keep 40 = .ok (.getfield 46, 3) := by decide +kernel
theorem dX10_keep_43 : decode cX10_keep 43 = .ok (.iload_n 1, 1) := by decide +kernel
theorem dX10_keep_44 : decode cX10_keep 44 = .ok (.iconst 1, 1) := by decide +kernel
theorem dX10_keep_45 : decode cX10_keep 45 = .ok (.bastore, 1) := by decide +kernel
theorem dX10_keep_46 : decode cX10_keep 46 = .ok (.iload_n 2, 1) := by decide +kernel
theorem dX10_keep_47 : decode cX10_keep 47 = .ok (.ireturn, 1) := by decide +kernel
theorem dX10_back_0 : decode cX10_back 0 = .ok (.iload_n 1, 1) := by decide +kernel
theorem dX10_back_1 : decode cX10_back 1 = .ok (.i2l, 1) := by decide +kernel
theorem dX10_back_2 : decode cX10_back 2 = .ok (.lconst 0, 1) := by decide +kernel
theorem dX10_back_3 : decode cX10_back 3 = .ok (.lconst 1, 1) := by decide +kernel
theorem dX10_back_4 : decode cX10_back 4 = .ok (.invokestatic 61, 3) := by decide +kernel
theorem dX10_back_7 : decode cX10_back 7 = .ok (.ifCond .ne 5, 3) := by decide +kernel
theorem dX10_back_10 : decode cX10_back 10 = .ok (.iconst (-1), 1) := by decide +kernel
theorem dX10_back_11 : decode cX10_back 11 = .ok (.ireturn, 1) := by decide +kernel
theorem dX10_back_12 : decode cX10_back 12 = .ok (.aload_n 0, 1) := by decide +kernel
theorem dX10_back_13 : decode cX10_back 13 = .ok (.getfield 46, 3) := by decide +kernel
theorem dX10_back_16 : decode cX10_back 16 = .ok (.iload_n 1, 1) := by decide +kernel
theorem dX10_back_17 : decode cX10_back 17 = .ok (.baload, 1) := by decide +kernel
theorem dX10_back_18 : decode cX10_back 18 = .ok (.ifCond .ne 6, 3) := by decide +kernel
theorem dX10_back_21 : decode cX10_back 21 = .ok (.bipush (-2), 2) := by decide +kernel
theorem dX10_back_23 : decode cX10_back 23 = .ok (.ireturn, 1) := by decide +kernel
theorem dX10_back_24 : decode cX10_back 24 = .ok (.aload_n 0, 1) := by decide +kernel
theorem dX10_back_25 : decode cX10_back 25 = .ok (.bipush 61, 2) := by decide +kernel
theorem dX10_back_27 : decode cX10_back 27 = .ok (.iload_n 1, 1) := by decide +kernel
theorem dX10_back_28 : decode cX10_back 28 = .ok (.imul, 1) := by decide +kernel
theorem dX10_back_29 : decode cX10_back 29 = .ok (.bipush 61, 2) := by decide +kernel
theorem dX10_back_31 : decode cX10_back 31 = .ok (.iadd, 1) := by decide +kernel
theorem dX10_back_32 : decode cX10_back 32 = .ok (.iconst 0, 1) := by decide +kernel
theorem dX10_back_33 : decode cX10_back 33 = .ok (.invokevirtual 155, 3) := by decide +kernel
theorem dX10_back_36 : decode cX10_back 36 = .ok (.aload_n 0, 1) := by decide +kernel
theorem dX10_back_37 : decode cX10_back 37 = .ok (.iconst 0, 1) := by decide +kernel
theorem dX10_back_38 : decode cX10_back 38 = .ok (.putfield 159, 3) := by decide +kernel
theorem dX10_back_41 : decode cX10_back 41 = .ok (.aload_n 0, 1) := by decide +kernel
theorem dX10_back_42 : decode cX10_back 42 = .ok (.iconst 0, 1) := by decide +kernel
theorem dX10_back_43 : decode cX10_back 43 = .ok (.putfield 162, 3) := by decide +kernel
theorem dX10_back_46 : decode cX10_back 46 = .ok (.aload_n 0, 1) := by decide +kernel
theorem dX10_back_47 : decode cX10_back 47 = .ok (.invokevirtual 165, 3) := by decide +kernel
theorem dX10_back_50 : decode cX10_back 50 = .ok (.ireturn, 1) := by decide +kernel
theorem dX10_sheet_0 : decode cX10_sheet 0 = .ok (.iload_n 1, 1) := by decide +kernel
theorem dX10_sheet_1 : decode cX10_sheet 1 = .ok (.i2l, 1) := by decide +kernel
theorem dX10_sheet_2 : decode cX10_sheet 2 = .ok (.lconst 0, 1) := by decide +kernel
theorem dX10_sheet_3 : decode cX10_sheet 3 = .ok (.ldc2_w 228, 3) := by decide +kernel
theorem dX10_sheet_6 : decode cX10_sheet 6 = .ok (.invokestatic 61, 3) := by decide +kernel
theorem dX10_sheet_9 : decode cX10_sheet 9 = .ok (.ifCond .eq 21, 3) := by decide +kernel
theorem dX10_sheet_12 : decode cX10_sheet 12 = .ok (.iload_n 2, 1) := by decide +kernel
theorem dX10_sheet_13 : decode cX10_sheet 13 = .ok (.i2l, 1) := by decide +kernel
theorem dX10_sheet_14 : decode cX10_sheet 14 = .ok (.lconst 0, 1) := by decide +kernel
theorem dX10_sheet_15 : decode cX10_sheet 15 = .ok (.ldc2_w 168, 3) := by decide +kernel
theorem dX10_sheet_18 : decode cX10_sheet 18 = .ok (.invokestatic 61, 3) := by decide +kernel
theorem dX10_sheet_21 : decode cX10_sheet 21 = .ok (.ifCond .eq 9, 3) := by decide +kernel
theorem dX10_sheet_24 : decode cX10_sheet 24 = .ok (.iload_n 3, 1) := by decide +kernel
theorem dX10_sheet_25 : decode cX10_sheet 25 = .ok (.bipush 40, 2) := by decide +kernel
theorem dX10_sheet_27 : decode cX10_sheet 27 = .ok (.if_icmp .le 5, 3) := by decide +kernel
theorem dX10_sheet_30 : decode cX10_sheet 30 = .ok (.iconst (-1), 1) := by decide +kernel
theorem dX10_sheet_31 : decode cX10_sheet 31 = .ok (.ireturn, 1) := by decide +kernel
theorem dX10_sheet_32 : decode cX10_sheet 32 = .ok (.iload_n 3, 1) := by decide +kernel
theorem dX10_sheet_33 : decode cX10_sheet 33 = .ok (.ifCond .ge 6, 3) := by decide +kernel
theorem dX10_sheet_36 : decode cX10_sheet 36 = .ok (.bipush (-14), 2) := by decide +kernel
theorem dX10_sheet_38 : decode cX10_sheet 38 = .ok (.ireturn, 1) := by decide +kernel
theorem dX10_sheet_39 : decode cX10_sheet 39 = .ok (.aload_n 0, 1) := by decide +kernel
theorem dX10_sheet_40 : decode cX10_sheet 40 = .ok (.getfield 50, 3) := by decide +kernel
theorem dX10_sheet_43 : decode cX10_sheet 43 = .ok (.iload_n 1, 1) := by decide +kernel
theorem dX10_sheet_44 : decode cX10_sheet 44 = .ok (.iload_n 2, 1) := by decide +kernel
theorem dX10_sheet_45 : decode cX10_sheet 45 = .ok (.iastore, 1) := by decide +kernel
theorem dX10_sheet_46 : decode cX10_sheet 46 = .ok (.aload_n 0, 1) := by decide +kernel
theorem dX10_sheet_47 : decode cX10_sheet 47 = .ok (.getfield 53, 3) := by decide +kernel
theorem dX10_sheet_50 : decode cX10_sheet 50 = .ok (.iload_n 1, 1) := by decide +kernel
theorem dX10_sheet_51 : decode cX10_sheet 51 = .ok (.iload_n 3, 1) := by decide +kernel
theorem dX10_sheet_52 : decode cX10_sheet 52 = .ok (.iastore, 1) := by decide +kernel
theorem dX10_sheet_53 : decode cX10_sheet 53 = .ok (.iconst 0, 1) := by decide +kernel
theorem dX10_sheet_54 : decode cX10_sheet 54 = .ok (.istore 4, 2) := by decide +kernel
theorem dX10_sheet_56 : decode cX10_sheet 56 = .ok (.iload 4, 2) := by decide +kernel
theorem dX10_sheet_58 : decode cX10_sheet 58 = .ok (.bipush 40, 2) := by decide +kernel
theorem dX10_sheet_60 : decode cX10_sheet 60 = .ok (.if_icmp .ge 22, 3) := by decide +kernel
theorem dX10_sheet_63 : decode cX10_sheet 63 = .ok (.aload_n 0, 1) := by decide +kernel
theorem dX10_sheet_64 : decode cX10_sheet 64 = .ok (.getfield 56, 3) := by decide +kernel
theorem dX10_sheet_67 : decode cX10_sheet 67 = .ok (.bipush 40, 2) := by decide +kernel
theorem dX10_sheet_69 : decode cX10_sheet 69 = .ok (.iload_n 1, 1) := by decide +kernel
theorem dX10_sheet_70 : decode cX10_sheet 70 = .ok (.imul, 1) := by decide +kernel
theorem dX10_sheet_71 : decode cX10_sheet 71 = .ok (.iload 4, 2) := by decide +kernel
theorem dX10_sheet_73 : decode cX10_sheet 73 = .ok (.iadd, 1) := by decide +kernel
theorem dX10_sheet_74 : decode cX10_sheet 74 = .ok (.iconst 0, 1) := by decide +kernel
theorem dX10_sheet_75 : decode cX10_sheet 75 = .ok (.iastore, 1) := by decide +kernel
theorem dX10_sheet_76 : decode cX10_sheet 76 = .ok (.iinc 4 1, 3) := by decide +kernel
theorem dX10_sheet_79 : decode cX10_sheet 79 = .ok (.goto (-23), 3) := by decide +kernel
theorem dX10_sheet_82 : decode cX10_sheet 82 = .ok (.iconst 1, 1) := by decide +kernel
theorem dX10_sheet_83 : decode cX10_sheet 83 = .ok (.ireturn, 1) := by decide +kernel
theorem dX10_lay_0 : decode cX10_lay 0 = .ok (.iload_n 1, 1) := by decide +kernel
theorem dX10_lay_1 : decode cX10_lay 1 = .ok (.i2l, 1) := by decide +kernel
theorem dX10_lay_2 : decode cX10_lay 2 = .ok (.lconst 0, 1) := by decide +kernel
theorem dX10_lay_3 : decode cX10_lay 3 = .ok (.ldc2_w 228, 3) := by decide +kernel
theorem dX10_lay_6 : decode cX10_lay 6 = .ok (.invokestatic 61, 3) := by decide +kernel
theorem dX10_lay_9 : decode cX10_lay 9 = .ok (.ifCond .ne 5, 3) := by decide +kernel
theorem dX10_lay_12 : decode cX10_lay 12 = .ok (.iconst (-1), 1) := by decide +kernel
theorem dX10_lay_13 : decode cX10_lay 13 = .ok (.ireturn, 1) := by decide +kernel
theorem dX10_lay_14 : decode cX10_lay 14 = .ok (.aload_n 0, 1) := by decide +kernel
theorem dX10_lay_15 : decode cX10_lay 15 = .ok (.getfield 50, 3) := by decide +kernel
theorem dX10_lay_18 : decode cX10_lay 18 = .ok (.iload_n 1, 1) := by decide +kernel
theorem dX10_lay_19 : decode cX10_lay 19 = .ok (.iaload, 1) := by decide +kernel
theorem dX10_lay_20 : decode cX10_lay 20 = .ok (.bipush (-4), 2) := by decide +kernel
theorem dX10_lay_22 : decode cX10_lay 22 = .ok (.if_icmp .ne 6, 3) := by decide +kernel
theorem dX10_lay_25 : decode cX10_lay 25 = .ok (.bipush (-11), 2) := by decide +kernel
theorem dX10_lay_27 : decode cX10_lay 27 = .ok (.ireturn, 1) := by decide +kernel
theorem dX10_lay_28 : decode cX10_lay 28 = .ok (.iload_n 2, 1) := by decide +kernel
theorem dX10_lay_29 : decode cX10_lay 29 = .ok (.i2l, 1) := by decide +kernel
theorem dX10_lay_30 : decode cX10_lay 30 = .ok (.lconst 0, 1) := by decide +kernel
theorem dX10_lay_31 : decode cX10_lay 31 = .ok (.aload_n 0, 1) := by decide +kernel
theorem dX10_lay_32 : decode cX10_lay 32 = .ok (.getfield 53, 3) := by decide +kernel
theorem dX10_lay_35 : decode cX10_lay 35 = .ok (.iload_n 1, 1) := by decide +kernel
theorem dX10_lay_36 : decode cX10_lay 36 = .ok (.iaload, 1) := by decide +kernel
theorem dX10_lay_37 : decode cX10_lay 37 = .ok (.iconst 1, 1) := by decide +kernel
theorem dX10_lay_38 : decode cX10_lay 38 = .ok (.isub, 1) := by decide +kernel
theorem dX10_lay_39 : decode cX10_lay 39 = .ok (.i2l, 1) := by decide +kernel
theorem dX10_lay_40 : decode cX10_lay 40 = .ok (.invokestatic 61, 3) := by decide +kernel
theorem dX10_lay_43 : decode cX10_lay 43 = .ok (.ifCond .ne 6, 3) := by decide +kernel
theorem dX10_lay_46 : decode cX10_lay 46 = .ok (.bipush (-12), 2) := by decide +kernel
theorem dX10_lay_48 : decode cX10_lay 48 = .ok (.ireturn, 1) := by decide +kernel
theorem dX10_lay_49 : decode cX10_lay 49 = .ok (.aload_n 0, 1) := by decide +kernel
theorem dX10_lay_50 : decode cX10_lay 50 = .ok (.getfield 56, 3) := by decide +kernel
theorem dX10_lay_53 : decode cX10_lay 53 = .ok (.bipush 40, 2) := by decide +kernel
theorem dX10_lay_55 : decode cX10_lay 55 = .ok (.iload_n 1, 1) := by decide +kernel
theorem dX10_lay_56 : decode cX10_lay 56 = .ok (.imul, 1) := by decide +kernel
theorem dX10_lay_57 : decode cX10_lay 57 = .ok (.iload_n 2, 1) := by decide +kernel
theorem dX10_lay_58 : decode cX10_lay 58 = .ok (.iadd, 1) := by decide +kernel
theorem dX10_lay_59 : decode cX10_lay 59 = .ok (.aload_n 0, 1) := by decide +kernel
theorem dX10_lay_60 : decode cX10_lay 60 = .ok (.getfield 50, 3) := by decide +kernel
theorem dX10_lay_63 : decode cX10_lay 63 = .ok (.iload_n 1, 1) := by decide +kernel
theorem dX10_lay_64 : decode cX10_lay 64 = .ok (.iaload, 1) := by decide +kernel
theorem dX10_lay_65 : decode cX10_lay 65 = .ok (.ifCond .ne 13, 3) := by decide +kernel
theorem dX10_lay_68 : decode cX10_lay 68 = .ok (.iload_n 3, 1) := by decide +kernel
theorem dX10_lay_69 : decode cX10_lay 69 = .ok (.bipush 24, 2) := by decide +kernel
theorem dX10_lay_71 : decode cX10_lay 71 = .ok (.ishl, 1) := by decide +kernel
theorem dX10_lay_72 : decode cX10_lay 72 = .ok (.bipush 24, 2) := by decide +kernel
theorem dX10_lay_74 : decode cX10_lay 74 = .ok (.ishr, 1) := by decide +kernel
theorem dX10_lay_75 : decode cX10_lay 75 = .ok (.goto 24, 3) := by decide +kernel
theorem dX10_lay_78 : decode cX10_lay 78 = .ok (.aload_n 0, 1) := by decide +kernel
theorem dX10_lay_79 : decode cX10_lay 79 = .ok (.getfield 50, 3) := by decide +kernel
theorem dX10_lay_82 : decode cX10_lay 82 = .ok (.iload_n 1, 1) := by decide +kernel
theorem dX10_lay_83 : decode cX10_lay 83 = .ok (.iaload, 1) := by decide +kernel
theorem dX10_lay_84 : decode cX10_lay 84 = .ok (.iconst 1, 1) := by decide +kernel
theorem dX10_lay_85 : decode cX10_lay 85 = .ok (.if_icmp .ne 13, 3) := by decide +kernel
theorem dX10_lay_88 : decode cX10_lay 88 = .ok (.iload_n 3, 1) := by decide +kernel
theorem dX10_lay_89 : decode cX10_lay 89 = .ok (.bipush 16, 2) := by decide +kernel
theorem dX10_lay_91 : decode cX10_lay 91 = .ok (.ishl, 1) := by decide +kernel
theorem dX10_lay_92 : decode cX10_lay 92 = .ok (.bipush 16, 2) := by decide +kernel
theorem dX10_lay_94 : decode cX10_lay 94 = .ok (.ishr, 1) := by decide +kernel
theorem dX10_lay_95 : decode cX10_lay 95 = .ok (.goto 4, 3) := by decide +kernel
theorem dX10_lay_98 : decode cX10_lay 98 = .ok (.iload_n 3, 1) := by decide +kernel
theorem dX10_lay_99 : decode cX10_lay 99 = .ok (.iastore, 1) := by decide +kernel
theorem dX10_lay_100 : decode cX10_lay 100 = .ok (.iconst 1, 1) := by decide +kernel
theorem dX10_lay_101 : decode cX10_lay 101 = .ok (.ireturn, 1) := by decide +kernel
theorem dX10_read_0 : decode cX10_read 0 = .ok (.iload_n 1, 1) := by decide +kernel
theorem dX10_read_1 : decode cX10_read 1 = .ok (.i2l, 1) := by decide +kernel
theorem dX10_read_2 : decode cX10_read 2 = .ok (.lconst 0, 1) := by decide +kernel
theorem dX10_read_3 : decode cX10_read 3 = .ok (.ldc2_w 228, 3) := by decide +kernel
theorem dX10_read_6 : decode cX10_read 6 = .ok (.invokestatic 61, 3) := by decide +kernel
theorem dX10_read_9 : decode cX10_read 9 = .ok (.ifCond .eq 28, 3) := by decide +kernel
theorem dX10_read_12 : decode cX10_read 12 = .ok (.iload_n 2, 1) := by decide +kernel
theorem dX10_read_13 : decode cX10_read 13 = .ok (.i2l, 1) := by decide +kernel
theorem dX10_read_14 : decode cX10_read 14 = .ok (.lconst 0, 1) := by decide +kernel
theorem dX10_read_15 : decode cX10_read 15 = .ok (.ldc2_w 168, 3) := by decide +kernel
theorem dX10_read_18 : decode cX10_read 18 = .ok (.invokestatic 61, 3) := by decide +kernel
theorem dX10_read_21 : decode cX10_read 21 = .ok (.ifCond .eq 16, 3) := by decide +kernel
theorem dX10_read_24 : decode cX10_read 24 = .ok (.iload 4, 2) := by decide +kernel
theorem dX10_read_26 : decode cX10_read 26 = .ok (.i2l, 1) := by decide +kernel
theorem dX10_read_27 : decode cX10_read 27 = .ok (.lconst 0, 1) := by decide +kernel
theorem dX10_read_28 : decode cX10_read 28 = .ok (.ldc2_w 270, 3) := by decide +kernel
theorem dX10_read_31 : decode cX10_read 31 = .ok (.invokestatic 61, 3) := by decide +kernel
theorem dX10_read_34 : decode cX10_read 34 = .ok (.ifCond .ne 5, 3) := by decide +kernel
theorem dX10_read_37 : decode cX10_read 37 = .ok (.iconst (-1), 1) := by decide +kernel
theorem dX10_read_38 : decode cX10_read 38 = .ok (.ireturn, 1) := by decide +kernel
theorem dX10_read_39 : decode cX10_read 39 = .ok (.aload_n 0, 1) := by decide +kernel
theorem dX10_read_40 : decode cX10_read 40 = .ok (.iconst 0, 1) := by decide +kernel
theorem dX10_read_41 : decode cX10_read 41 = .ok (.sipush 244, 3) := by decide +kernel
theorem dX10_read_44 : decode cX10_read 44 = .ok (.invokevirtual 155, 3) := by decide +kernel
theorem dX10_read_47 : decode cX10_read 47 = .ok (.iconst 0, 1) := by decide +kernel
theorem dX10_read_48 : decode cX10_read 48 = .ok (.istore 5, 2) := by decide +kernel
theorem dX10_read_50 : decode cX10_read 50 = .ok (.iconst 0, 1) := by decide +kernel
theorem dX10_read_51 : decode cX10_read 51 = .ok (.istore 6, 2) := by decide +kernel
theorem dX10_read_53 : decode cX10_read 53 = .ok (.iload 6, 2) := by decide +kernel
theorem dX10_read_55 : decode cX10_read 55 = .ok (.iload 4, 2) := by decide +kernel
theorem dX10_read_57 : decode cX10_read 57 = .ok (.if_icmp .ge 137, 3) := by decide +kernel
theorem dX10_read_60 : decode cX10_read 60 = .ok (.iload 5, 2) := by decide +kernel
theorem dX10_read_62 : decode cX10_read 62 = .ok (.ifCond .ne 132, 3) := by decide +kernel
theorem dX10_read_65 : decode cX10_read 65 = .ok (.iload_n 3, 1) := by decide +kernel
theorem dX10_read_66 : decode cX10_read 66 = .ok (.i2l, 1) := by decide +kernel
theorem dX10_read_67 : decode cX10_read 67 = .ok (.iload 6, 2) := by decide +kernel
theorem dX10_read_69 : decode cX10_read 69 = .ok (.i2l, 1) := by decide +kernel
theorem dX10_read_70 : decode cX10_read 70 = .ok (.ladd, 1) := by decide +kernel
theorem dX10_read_71 : decode cX10_read 71 = .ok (.lstore 7, 2) := by decide +kernel
theorem dX10_read_73 : decode cX10_read 73 = .ok (.aload_n 0, 1) := by decide +kernel
theorem dX10_read_74 : decode cX10_read 74 = .ok (.getfield 50, 3) := by decide +kernel
theorem dX10_read_77 : decode cX10_read 77 = .ok (.iload_n 1, 1) := by decide +kernel
theorem dX10_read_78 : decode cX10_read 78 = .ok (.iaload, 1) := by decide +kernel
theorem dX10_read_79 : decode cX10_read 79 = .ok (.bipush (-4), 2) := by decide +kernel
theorem dX10_read_81 : decode cX10_read 81 = .ok (.if_icmp .ne 7, 3) := by decide +kernel
theorem dX10_read_84 : decode cX10_read 84 = .ok (.iconst 1, 1) := by decide +kernel
theorem dX10_read_85 : decode cX10_read 85 = .ok (.goto 40, 3) := by decide +kernel
theorem dX10_read_88 : decode cX10_read 88 = .ok (.aload_n 0, 1) := by decide +kernel
theorem dX10_read_89 : decode cX10_read 89 = .ok (.getfield 50, 3) := by decide +kernel
theorem dX10_read_92 : decode cX10_read 92 = .ok (.iload_n 1, 1) := by decide +kernel
theorem dX10_read_93 : decode cX10_read 93 = .ok (.iaload, 1) := by decide +kernel
theorem dX10_read_94 : decode cX10_read 94 = .ok (.iload_n 2, 1) := by decide +kernel
theorem dX10_read_95 : decode cX10_read 95 = .ok (.if_icmp .eq 7, 3) := by decide +kernel
theorem dX10_read_98 : decode cX10_read 98 = .ok (.iconst 3, 1) := by decide +kernel
theorem dX10_read_99 : decode cX10_read 99 = .ok (.goto 26, 3) := by decide +kernel
theorem dX10_read_102 : decode cX10_read 102 = .ok (.lload 7, 2) := by decide +kernel
theorem dX10_read_104 : decode cX10_read 104 = .ok (.lconst 0, 1) := by decide +kernel
theorem dX10_read_105 : decode cX10_read 105 = .ok (.aload_n 0, 1) := by decide +kernel
theorem dX10_read_106 : decode cX10_read 106 = .ok (.getfield 53, 3) := by decide +kernel
theorem dX10_read_109 : decode cX10_read 109 = .ok (.iload_n 1, 1) := by decide +kernel
theorem dX10_read_110 : decode cX10_read 110 = .ok (.iaload, 1) := by decide +kernel
theorem dX10_read_111 : decode cX10_read 111 = .ok (.iconst 1, 1) := by decide +kernel
theorem dX10_read_112 : decode cX10_read 112 = .ok (.isub, 1) := by decide +kernel
theorem dX10_read_113 : decode cX10_read 113 = .ok (.i2l, 1) := by decide +kernel
theorem dX10_read_114 : decode cX10_read 114 = .ok (.invokestatic 61, 3) := by decide +kernel
theorem dX10_read_117 : decode cX10_read 117 = .ok (.ifCond .ne 7, 3) := by decide +kernel
theorem dX10_read_120 : decode cX10_read 120 = .ok (.iconst 2, 1) := by decide +kernel
theorem dX10_read_121 : decode cX10_read 121 = .ok (.goto 4, 3) := by decide +kernel
theorem dX10_read_124 : decode cX10_read 124 = .ok (.iconst 0, 1) := by decide +kernel
theorem dX10_read_125 : decode cX10_read 125 = .ok (.istore 5, 2) := by decide +kernel
theorem dX10_read_127 : decode cX10_read 127 = .ok (.iload 5, 2) := by decide +kernel
theorem dX10_read_129 : decode cX10_read 129 = .ok (.ifCond .ne 62, 3) := by decide +kernel
theorem dX10_read_132 : decode cX10_read 132 = .ok (.aload_n 0, 1) := by decide +kernel
theorem dX10_read_133 : decode cX10_read 133 = .ok (.getfield 56, 3) := by decide +kernel
theorem dX10_read_136 : decode cX10_read 136 = .ok (.bipush 40, 2) := by decide +kernel
theorem dX10_read_138 : decode cX10_read 138 = .ok (.iload_n 1, 1) := by decide +kernel
theorem dX10_read_139 : decode cX10_read 139 = .ok (.imul, 1) := by decide +kernel
theorem dX10_read_140 : decode cX10_read 140 = .ok (.lload 7, 2) := by decide +kernel
theorem dX10_read_142 : decode cX10_read 142 = .ok (.l2i, 1) := by decide +kernel
theorem dX10_read_143 : decode cX10_read 143 = .ok (.iadd, 1) := by decide +kernel
theorem dX10_read_144 : decode cX10_read 144 = .ok (.iaload, 1) := by decide +kernel
theorem dX10_read_145 : decode cX10_read 145 = .ok (.istore 9, 2) := by decide +kernel
theorem dX10_read_147 : decode cX10_read 147 = .ok (.iload 9, 2) := by decide +kernel
theorem dX10_read_149 : decode cX10_read 149 = .ok (.invokestatic 98, 3) := by decide +kernel
theorem dX10_read_152 : decode cX10_read 152 = .ok (.ifCond .eq 12, 3) := by decide +kernel
theorem dX10_read_155 : decode cX10_read 155 = .ok (.aload_n 0, 1) := by decide +kernel
theorem dX10_read_156 : decode cX10_read 156 = .ok (.invokevirtual 165, 3) := by decide +kernel
theorem dX10_read_159 : decode cX10_read 159 = .ok (.bipush 60, 2) := by decide +kernel
theorem dX10_read_161 : decode cX10_read 161 = .ok (.if_icmp .ne 17, 3) := by decide +kernel
theorem dX10_read_164 : decode cX10_read 164 = .ok (.aload_n 0, 1) := by decide +kernel
theorem dX10_read_165 : decode cX10_read 165 = .ok (.sipush 244, 3) := by decide +kernel
theorem dX10_read_168 : decode cX10_read 168 = .ok (.iconst 0, 1) := by decide +kernel
theorem dX10_read_169 : decode cX10_read 169 = .ok (.invokevirtual 155, 3) := by decide +kernel
theorem dX10_read_172 : decode cX10_read 172 = .ok (.bipush (-20), 2) := by decide +kernel
theorem dX10_read_174 : decode cX10_read 174 = .ok (.iload 6, 2) := by decide +kernel
theorem dX10_read_176 : decode cX10_read 176 = .ok (.isub, 1) := by decide +kernel
theorem dX10_read_177 : decode cX10_read 177 = .ok (.ireturn, 1) := by decide +kernel
theorem dX10_read_178 : decode cX10_read 178 = .ok (.aload_n 0, 1) := by decide +kernel
theorem dX10_read_179 : decode cX10_read 179 = .ok (.aload_n 0, 1) := by decide +kernel
theorem dX10_read_180 : decode cX10_read 180 = .ok (.invokevirtual 165, 3) := by decide +kernel
theorem dX10_read_183 : decode cX10_read 183 = .ok (.iload 9, 2) := by decide +kernel
theorem dX10_read_185 : decode cX10_read 185 = .ok (.invokevirtual 243, 3) := by decide +kernel
theorem dX10_read_188 : decode cX10_read 188 = .ok (.iinc 6 1, 3) := by decide +kernel
theorem dX10_read_191 : decode cX10_read 191 = .ok (.goto (-138), 3) := by decide +kernel
theorem dX10_read_194 : decode cX10_read 194 = .ok (.aload_n 0, 1) := by decide +kernel
theorem dX10_read_195 : decode cX10_read 195 = .ok (.iconst 0, 1) := by decide +kernel
theorem dX10_read_196 : decode cX10_read 196 = .ok (.sipush 183, 3) := by decide +kernel
theorem dX10_read_199 : decode cX10_read 199 = .ok (.invokevirtual 155, 3) := by decide +kernel
theorem dX10_read_202 : decode cX10_read 202 = .ok (.aload_n 0, 1) := by decide +kernel
theorem dX10_read_203 : decode cX10_read 203 = .ok (.sipush 244, 3) := by decide +kernel
theorem dX10_read_206 : decode cX10_read 206 = .ok (.iconst 0, 1) := by decide +kernel
theorem dX10_read_207 : decode cX10_read 207 = .ok (.invokevirtual 155, 3) := by decide +kernel
theorem dX10_read_210 : decode cX10_read 210 = .ok (.aload_n 0, 1) := by decide +kernel
theorem dX10_read_211 : decode cX10_read 211 = .ok (.invokevirtual 240, 3) := by decide +kernel
theorem dX10_read_214 : decode cX10_read 214 = .ok (.aload_n 0, 1) := by decide +kernel
theorem dX10_read_215 : decode cX10_read 215 = .ok (.sipush 183, 3) := by decide +kernel
theorem dX10_read_218 : decode cX10_read 218 = .ok (.iconst 0, 1) := by decide +kernel
theorem dX10_read_219 : decode cX10_read 219 = .ok (.invokevirtual 155, 3) := by decide +kernel
theorem dX10_read_222 : decode cX10_read 222 = .ok (.aload_n 0, 1) := by decide +kernel
theorem dX10_read_223 : decode cX10_read 223 = .ok (.iload 5, 2) := by decide +kernel
theorem dX10_read_225 : decode cX10_read 225 = .ok (.putfield 272, 3) := by decide +kernel
theorem dX10_read_228 : decode cX10_read 228 = .ok (.iload 6, 2) := by decide +kernel
theorem dX10_read_230 : decode cX10_read 230 = .ok (.ireturn, 1) := by decide +kernel
theorem dX10_torn_0 : decode cX10_torn 0 = .ok (.aload_n 0, 1) := by decide +kernel
theorem dX10_torn_1 : decode cX10_torn 1 = .ok (.getfield 272, 3) := by decide +kernel
theorem dX10_torn_4 : decode cX10_torn 4 = .ok (.ireturn, 1) := by decide +kernel
theorem dX10_count_0 : decode cX10_count 0 = .ok (.iconst 0, 1) := by decide +kernel
theorem dX10_count_1 : decode cX10_count 1 = .ok (.istore_n 2, 1) := by decide +kernel
theorem dX10_count_2 : decode cX10_count 2 = .ok (.iconst 0, 1) := by decide +kernel
theorem dX10_count_3 : decode cX10_count 3 = .ok (.istore_n 3, 1) := by decide +kernel
theorem dX10_count_4 : decode cX10_count 4 = .ok (.iconst 0, 1) := by decide +kernel
theorem dX10_count_5 : decode cX10_count 5 = .ok (.istore 4, 2) := by decide +kernel
theorem dX10_count_7 : decode cX10_count 7 = .ok (.iload 4, 2) := by decide +kernel
theorem dX10_count_9 : decode cX10_count 9 = .ok (.aload_n 0, 1) := by decide +kernel
theorem dX10_count_10 : decode cX10_count 10 = .ok (.invokevirtual 165, 3) := by decide +kernel
theorem dX10_count_13 : decode cX10_count 13 = .ok (.if_icmp .ge 49, 3) := by decide +kernel
theorem dX10_count_16 : decode cX10_count 16 = .ok (.iload_n 2, 1) := by decide +kernel
theorem dX10_count_17 : decode cX10_count 17 = .ok (.aload_n 0, 1) := by decide +kernel
theorem dX10_count_18 : decode cX10_count 18 = .ok (.iload 4, 2) := by decide +kernel
theorem dX10_count_20 : decode cX10_count 20 = .ok (.invokevirtual 170, 3) := by decide +kernel
theorem dX10_count_23 : decode cX10_count 23 = .ok (.invokestatic 142, 3) := by decide +kernel
theorem dX10_count_26 : decode cX10_count 26 = .ok (.ifCond .eq 7, 3) := by decide +kernel
theorem dX10_count_29 : decode cX10_count 29 = .ok (.iconst 1, 1) := by decide +kernel
theorem dX10_count_30 : decode cX10_count 30 = .ok (.goto 4, 3) := by decide +kernel
theorem dX10_count_33 : decode cX10_count 33 = .ok (.iconst 0, 1) := by decide +kernel
theorem dX10_count_34 : decode cX10_count 34 = .ok (.iadd, 1) := by decide +kernel
theorem dX10_count_35 : decode cX10_count 35 = .ok (.istore_n 2, 1) := by decide +kernel
theorem dX10_count_36 : decode cX10_count 36 = .ok (.iload_n 3, 1) := by decide +kernel
theorem dX10_count_37 : decode cX10_count 37 = .ok (.aload_n 0, 1) := by decide +kernel
theorem dX10_count_38 : decode cX10_count 38 = .ok (.iload 4, 2) := by decide +kernel
theorem dX10_count_40 : decode cX10_count 40 = .ok (.invokevirtual 170, 3) := by decide +kernel
theorem dX10_count_43 : decode cX10_count 43 = .ok (.invokestatic 186, 3) := by decide +kernel
theorem dX10_count_46 : decode cX10_count 46 = .ok (.ifCond .eq 7, 3) := by decide +kernel
theorem dX10_count_49 : decode cX10_count 49 = .ok (.iconst 1, 1) := by decide +kernel
theorem dX10_count_50 : decode cX10_count 50 = .ok (.goto 4, 3) := by decide +kernel
theorem dX10_count_53 : decode cX10_count 53 = .ok (.iconst 0, 1) := by decide +kernel
theorem dX10_count_54 : decode cX10_count 54 = .ok (.iadd, 1) := by decide +kernel
theorem dX10_count_55 : decode cX10_count 55 = .ok (.istore_n 3, 1) := by decide +kernel
theorem dX10_count_56 : decode cX10_count 56 = .ok (.iinc 4 1, 3) := by decide +kernel
theorem dX10_count_59 : decode cX10_count 59 = .ok (.goto (-52), 3) := by decide +kernel
theorem dX10_count_62 : decode cX10_count 62 = .ok (.iload_n 1, 1) := by decide +kernel
theorem dX10_count_63 : decode cX10_count 63 = .ok (.tableswitch 95 0 4 #[33, 63, 68, 91, 93], 33) := by decide +kernel
theorem dX10_count_96 : decode cX10_count 96 = .ok (.aload_n 0, 1) := by decide +kernel
theorem dX10_count_97 : decode cX10_count 97 = .ok (.getfield 46, 3) := by decide +kernel
theorem dX10_count_100 : decode cX10_count 100 = .ok (.iconst 0, 1) := by decide +kernel
theorem dX10_count_101 : decode cX10_count 101 = .ok (.baload, 1) := by decide +kernel
theorem dX10_count_102 : decode cX10_count 102 = .ok (.ifCond .eq 7, 3) := by decide +kernel
theorem dX10_count_105 : decode cX10_count 105 = .ok (.iconst 1, 1) := by decide +kernel
theorem dX10_count_106 : decode cX10_count 106 = .ok (.goto 4, 3) := by decide +kernel
theorem dX10_count_109 : decode cX10_count 109 = .ok (.iconst 0, 1) := by decide +kernel
theorem dX10_count_110 : decode cX10_count 110 = .ok (.aload_n 0, 1) := by decide +kernel
theorem dX10_count_111 : decode cX10_count 111 = .ok (.getfield 46, 3) := by decide +kernel
theorem dX10_count_114 : decode cX10_count 114 = .ok (.iconst 1, 1) := by decide +kernel
theorem dX10_count_115 : decode cX10_count 115 = .ok (.baload, 1) := by decide +kernel
theorem dX10_count_116 : decode cX10_count 116 = .ok (.ifCond .eq 7, 3) := by decide +kernel
theorem dX10_count_119 : decode cX10_count 119 = .ok (.iconst 1, 1) := by decide +kernel
theorem dX10_count_120 : decode cX10_count 120 = .ok (.goto 4, 3) := by decide +kernel
theorem dX10_count_123 : decode cX10_count 123 = .ok (.iconst 0, 1) := by decide +kernel
theorem dX10_count_124 : decode cX10_count 124 = .ok (.iadd, 1) := by decide +kernel
theorem dX10_count_125 : decode cX10_count 125 = .ok (.ireturn, 1) := by decide +kernel
theorem dX10_count_126 : decode cX10_count 126 = .ok (.aload_n 0, 1) := by decide +kernel
theorem dX10_count_127 : decode cX10_count 127 = .ok (.getfield 65, 3) := by decide +kernel
theorem dX10_count_130 : decode cX10_count 130 = .ok (.ireturn, 1) := by decide +kernel
theorem dX10_count_131 : decode cX10_count 131 = .ok (.aload_n 0, 1) := by decide +kernel
theorem dX10_count_132 : decode cX10_count 132 = .ok (.getfield 50, 3) := by decide +kernel
theorem dX10_count_135 : decode cX10_count 135 = .ok (.iconst 0, 1) := by decide +kernel
theorem dX10_count_136 : decode cX10_count 136 = .ok (.iaload, 1) := by decide +kernel
theorem dX10_count_137 : decode cX10_count 137 = .ok (.bipush (-4), 2) := by decide +kernel
theorem dX10_count_139 : decode cX10_count 139 = .ok (.if_icmp .ne 8, 3) := by decide +kernel
theorem dX10_count_142 : decode cX10_count 142 = .ok (.bipush (-4), 2) := by decide +kernel
theorem dX10_count_144 : decode cX10_count 144 = .ok (.goto 9, 3) := by decide +kernel
theorem dX10_count_147 : decode cX10_count 147 = .ok (.aload_n 0, 1) := by decide +kernel
theorem dX10_count_148 : decode cX10_count 148 = .ok (.getfield 53, 3) := by decide +kernel
theorem dX10_count_151 : decode cX10_count 151 = .ok (.iconst 0, 1) := by decide +kernel
theorem dX10_count_152 : decode cX10_count 152 = .ok (.iaload, 1) := by decide +kernel
theorem dX10_count_153 : decode cX10_count 153 = .ok (.ireturn, 1) := by decide +kernel
theorem dX10_count_154 : decode cX10_count 154 = .ok (.iload_n 2, 1) := by decide +kernel
theorem dX10_count_155 : decode cX10_count 155 = .ok (.ireturn, 1) := by decide +kernel
theorem dX10_count_156 : decode cX10_count 156 = .ok (.iload_n 3, 1) := by decide +kernel
theorem dX10_count_157 : decode cX10_count 157 = .ok (.ireturn, 1) := by decide +kernel
theorem dX10_count_158 : decode cX10_count 158 = .ok (.iconst (-1), 1) := by decide +kernel
theorem dX10_count_159 : decode cX10_count 159 = .ok (.ireturn, 1) := by decide +kernel
