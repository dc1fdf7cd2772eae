/-! decode rows (printed) -/
set_option maxRecDepth 100000 in
theorem dX9_init_0 : decode cX9_init 0 = .ok (.aload_n 0, 1) := by decide +kernel
set_option maxRecDepth 100000 in
theorem dX9_init_1 : decode cX9_init 1 = .ok (.invokespecial 1, 3) := by decide +kernel
set_option maxRecDepth 100000 in
theorem dX9_init_4 : decode cX9_init 4 = .ok (.aload_n 0, 1) := by decide +kernel
set_option maxRecDepth 100000 in
theorem dX9_init_5 : decode cX9_init 5 = .ok (.iconst 4, 1) := by decide +kernel
set_option maxRecDepth 100000 in
theorem dX9_init_6 : decode cX9_init 6 = .ok (.newarray .int, 2) := by decide +kernel
set_option maxRecDepth 100000 in
theorem dX9_init_8 : decode cX9_init 8 = .ok (.putfield 7, 3) := by decide +kernel
set_option maxRecDepth 100000 in
theorem dX9_init_11 : decode cX9_init 11 = .ok (.aload_n 0, 1) := by decide +kernel
set_option maxRecDepth 100000 in
theorem dX9_init_12 : decode cX9_init 12 = .ok (.bipush 12, 2) := by decide +kernel
set_option maxRecDepth 100000 in
theorem dX9_init_14 : decode cX9_init 14 = .ok (.newarray .int, 2) := by decide +kernel
set_option maxRecDepth 100000 in
theorem dX9_init_16 : decode cX9_init 16 = .ok (.putfield 13, 3) := by decide +kernel
set_option maxRecDepth 100000 in
theorem dX9_init_19 : decode cX9_init 19 = .ok (.aload_n 0, 1) := by decide +kernel
set_option maxRecDepth 100000 in
theorem dX9_init_20 : decode cX9_init 20 = .ok (.bipush 12, 2) := by decide +kernel
set_option maxRecDepth 100000 in
theorem dX9_init_22 : decode cX9_init 22 = .ok (.newarray .int, 2) := by decide +kernel
set_option maxRecDepth 100000 in
theorem dX9_init_24 : decode cX9_init 24 = .ok (.putfield 16, 3) := by decide +kernel
set_option maxRecDepth 100000 in
theorem dX9_init_27 : decode cX9_init 27 = .ok (.aload_n 0, 1) := by decide +kernel
set_option maxRecDepth 100000 in
theorem dX9_init_28 : decode cX9_init 28 = .ok (.bipush 12, 2) := by decide +kernel
set_option maxRecDepth 100000 in
theorem dX9_init_30 : decode cX9_init 30 = .ok (.newarray .int, 2) := by decide +kernel
set_option maxRecDepth 100000 in
theorem dX9_init_32 : decode cX9_init 32 = .ok (.putfield 19, 3) := by decide +kernel
set_option maxRecDepth 100000 in
theorem dX9_init_35 : decode cX9_init 35 = .ok (.aload_n 0, 1) := by decide +kernel
set_option maxRecDepth 100000 in
theorem dX9_init_36 : decode cX9_init 36 = .ok (.iconst 4, 1) := by decide +kernel
set_option maxRecDepth 100000 in
theorem dX9_init_37 : decode cX9_init 37 = .ok (.newarray .int, 2) := by decide +kernel
set_option maxRecDepth 100000 in
theorem dX9_init_39 : decode cX9_init 39 = .ok (.putfield 22, 3) := by decide +kernel
set_option maxRecDepth 100000 in
theorem dX9_init_42 : decode cX9_init 42 = .ok (.aload_n 0, 1) := by decide +kernel
set_option maxRecDepth 100000 in
theorem dX9_init_43 : decode cX9_init 43 = .ok (.iconst 4, 1) := by decide +kernel
set_option maxRecDepth 100000 in
theorem dX9_init_44 : decode cX9_init 44 = .ok (.newarray .int, 2) := by decide +kernel
set_option maxRecDepth 100000 in
theorem dX9_init_46 : decode cX9_init 46 = .ok (.putfield 25, 3) := by decide +kernel
set_option maxRecDepth 100000 in
theorem dX9_init_49 : decode cX9_init 49 = .ok (.aload_n 0, 1) := by decide +kernel
set_option maxRecDepth 100000 in
theorem dX9_init_50 : decode cX9_init 50 = .ok (.iconst 4, 1) := by decide +kernel
set_option maxRecDepth 100000 in
theorem dX9_init_51 : decode cX9_init 51 = .ok (.newarray .int, 2) := by decide +kernel
set_option maxRecDepth 100000 in
theorem dX9_init_53 : decode cX9_init 53 = .ok (.putfield 28, 3) := by decide +kernel
set_option maxRecDepth 100000 in
theorem dX9_init_56 : decode cX9_init 56 = .ok (.aload_n 0, 1) := by decide +kernel
set_option maxRecDepth 100000 in
theorem dX9_init_57 : decode cX9_init 57 = .ok (.iconst 4, 1) := by decide +kernel
set_option maxRecDepth 100000 in
theorem dX9_init_58 : decode cX9_init 58 = .ok (.newarray .int, 2) := by decide +kernel
set_option maxRecDepth 100000 in
theorem dX9_init_60 : decode cX9_init 60 = .ok (.putfield 31, 3) := by decide +kernel
set_option maxRecDepth 100000 in
theorem dX9_init_63 : decode cX9_init 63 = .ok (.aload_n 0, 1) := by decide +kernel
set_option maxRecDepth 100000 in
theorem dX9_init_64 : decode cX9_init 64 = .ok (.bipush 48, 2) := by decide +kernel
set_option maxRecDepth 100000 in
theorem dX9_init_66 : decode cX9_init 66 = .ok (.newarray .int, 2) := by decide +kernel
set_option maxRecDepth 100000 in
theorem dX9_init_68 : decode cX9_init 68 = .ok (.putfield 34, 3) := by decide +kernel
set_option maxRecDepth 100000 in
theorem dX9_init_71 : decode cX9_init 71 = .ok (.aload_n 0, 1) := by decide +kernel
set_option maxRecDepth 100000 in
theorem dX9_init_72 : decode cX9_init 72 = .ok (.iconst 4, 1) := by decide +kernel
set_option maxRecDepth 100000 in
theorem dX9_init_73 : decode cX9_init 73 = .ok (.newarray .int, 2) := by decide +kernel
set_option maxRecDepth 100000 in
theorem dX9_init_75 : decode cX9_init 75 = .ok (.putfield 37, 3) := by decide +kernel
set_option maxRecDepth 100000 in
theorem dX9_init_78 : decode cX9_init 78 = .ok (.aload_n 0, 1) := by decide +kernel
set_option maxRecDepth 100000 in
theorem dX9_init_79 : decode cX9_init 79 = .ok (.iconst 4, 1) := by decide +kernel
set_option maxRecDepth 100000 in
theorem dX9_init_80 : decode cX9_init 80 = .ok (.newarray .int, 2) := by decide +kernel
set_option maxRecDepth 100000 in
theorem dX9_init_82 : decode cX9_init 82 = .ok (.putfield 40, 3) := by decide +kernel
set_option maxRecDepth 100000 in
theorem dX9_init_85 : decode cX9_init 85 = .ok (.aload_n 0, 1) := by decide +kernel
set_option maxRecDepth 100000 in
theorem dX9_init_86 : decode cX9_init 86 = .ok (.bipush 8, 2) := by decide +kernel
set_option maxRecDepth 100000 in
theorem dX9_init_88 : decode cX9_init 88 = .ok (.newarray .int, 2) := by decide +kernel
set_option maxRecDepth 100000 in
theorem dX9_init_90 : decode cX9_init 90 = .ok (.putfield 43, 3) := by decide +kernel
set_option maxRecDepth 100000 in
theorem dX9_init_93 : decode cX9_init 93 = .ok (.aload_n 0, 1) := by decide +kernel
set_option maxRecDepth 100000 in
theorem dX9_init_94 : decode cX9_init 94 = .ok (.bipush 8, 2) := by decide +kernel
set_option maxRecDepth 100000 in
theorem dX9_init_96 : decode cX9_init 96 = .ok (.newarray .int, 2) := by decide +kernel
set_option maxRecDepth 100000 in
theorem dX9_init_98 : decode cX9_init 98 = .ok (.putfield 46, 3) := by decide +kernel
set_option maxRecDepth 100000 in
theorem dX9_init_101 : decode cX9_init 101 = .ok (.aload_n 0, 1) := by decide +kernel
set_option maxRecDepth 100000 in
theorem dX9_init_102 : decode cX9_init 102 = .ok (.bipush 8, 2) := by decide +kernel
set_option maxRecDepth 100000 in
theorem dX9_init_104 : decode cX9_init 104 = .ok (.newarray .int, 2) := by decide +kernel
set_option maxRecDepth 100000 in
theorem dX9_init_106 : decode cX9_init 106 = .ok (.putfield 49, 3) := by decide +kernel
set_option maxRecDepth 100000 in
theorem dX9_init_109 : decode cX9_init 109 = .ok (.aload_n 0, 1) := by decide +kernel
set_option maxRecDepth 100000 in
theorem dX9_init_110 : decode cX9_init 110 = .ok (.bipush 8, 2) := by decide +kernel
set_option maxRecDepth 100000 in
theorem dX9_init_112 : decode cX9_init 112 = .ok (.newarray .int, 2) := by decide +kernel
set_option maxRecDepth 100000 in
theorem dX9_init_114 : decode cX9_init 114 = .ok (.putfield 52, 3) := by decide +kernel
set_option maxRecDepth 100000 in
theorem dX9_init_117 : decode cX9_init 117 = .ok (.aload_n 0, 1) := by decide +kernel
set_option maxRecDepth 100000 in
theorem dX9_init_118 : decode cX9_init 118 = .ok (.bipush 10, 2) := by decide +kernel
set_option maxRecDepth 100000 in
theorem dX9_init_120 : decode cX9_init 120 = .ok (.newarray .int, 2) := by decide +kernel
set_option maxRecDepth 100000 in
theorem dX9_init_122 : decode cX9_init 122 = .ok (.putfield 55, 3) := by decide +kernel
set_option maxRecDepth 100000 in
theorem dX9_init_125 : decode cX9_init 125 = .ok (.aload_n 0, 1) := by decide +kernel
set_option maxRecDepth 100000 in
theorem dX9_init_126 : decode cX9_init 126 = .ok (.bipush 10, 2) := by decide +kernel
set_option maxRecDepth 100000 in
theorem dX9_init_128 : decode cX9_init 128 = .ok (.newarray .int, 2) := by decide +kernel
set_option maxRecDepth 100000 in
theorem dX9_init_130 : decode cX9_init 130 = .ok (.putfield 58, 3) := by decide +kernel
set_option maxRecDepth 100000 in
theorem dX9_init_133 : decode cX9_init 133 = .ok (.aload_n 0, 1) := by decide +kernel
set_option maxRecDepth 100000 in
theorem dX9_init_134 : decode cX9_init 134 = .ok (.bipush 10, 2) := by decide +kernel
set_option maxRecDepth 100000 in
theorem dX9_init_136 : decode cX9_init 136 = .ok (.newarray .int, 2) := by decide +kernel
set_option maxRecDepth 100000 in
theorem dX9_init_138 : decode cX9_init 138 = .ok (.putfield 61, 3) := by decide +kernel
set_option maxRecDepth 100000 in
theorem dX9_init_141 : decode cX9_init 141 = .ok (.aload_n 0, 1) := by decide +kernel
set_option maxRecDepth 100000 in
theorem dX9_init_142 : decode cX9_init 142 = .ok (.iconst (-1), 1) := by decide +kernel
set_option maxRecDepth 100000 in
theorem dX9_init_143 : decode cX9_init 143 = .ok (.putfield 64, 3) := by decide +kernel
set_option maxRecDepth 100000 in
theorem dX9_init_146 : decode cX9_init 146 = .ok (.aload_n 0, 1) := by decide +kernel
set_option maxRecDepth 100000 in
theorem dX9_init_147 : decode cX9_init 147 = .ok (.bipush 12, 2) := by decide +kernel
set_option maxRecDepth 100000 in
theorem dX9_init_149 : decode cX9_init 149 = .ok (.newarray .int, 2) := by decide +kernel
set_option maxRecDepth 100000 in
theorem dX9_init_151 : decode cX9_init 151 = .ok (.putfield 68, 3) := by decide +kernel
set_option maxRecDepth 100000 in
theorem dX9_init_154 : decode cX9_init 154 = .ok (.aload_n 0, 1) := by decide +kernel
set_option maxRecDepth 100000 in
theorem dX9_init_155 : decode cX9_init 155 = .ok (.bipush 80, 2) := by decide +kernel
set_option maxRecDepth 100000 in
theorem dX9_init_157 : decode cX9_init 157 = .ok (.newarray .byte, 2) := by decide +kernel
set_option maxRecDepth 100000 in
theorem dX9_init_159 : decode cX9_init 159 = .ok (.putfield 71, 3) := by decide +kernel
set_option maxRecDepth 100000 in
theorem dX9_init_162 : decode cX9_init 162 = .ok (.aload_n 0, 1) := by decide +kernel
set_option maxRecDepth 100000 in
theorem dX9_init_163 : decode cX9_init 163 = .ok (.iconst 4, 1) := by decide +kernel
set_option maxRecDepth 100000 in
theorem dX9_init_164 : decode cX9_init 164 = .ok (.newarray .int, 2) := by decide +kernel
set_option maxRecDepth 100000 in
theorem dX9_init_166 : decode cX9_init 166 = .ok (.putfield 75, 3) := by decide +kernel
set_option maxRecDepth 100000 in
theorem dX9_init_169 : decode cX9_init 169 = .ok (.aload_n 0, 1) := by decide +kernel
set_option maxRecDepth 100000 in
theorem dX9_init_170 : decode cX9_init 170 = .ok (.iconst 4, 1) := by decide +kernel
set_option maxRecDepth 100000 in
theorem dX9_init_171 : decode cX9_init 171 = .ok (.newarray .int, 2) := by decide +kernel
set_option maxRecDepth 100000 in
theorem dX9_init_173 : decode cX9_init 173 = .ok (.putfield 78, 3) := by decide +kernel
set_option maxRecDepth 100000 in
theorem dX9_init_176 : decode cX9_init 176 = .ok (.aload_n 0, 1) := by decide +kernel
set_option maxRecDepth 100000 in
theorem dX9_init_177 : decode cX9_init 177 = .ok (.bipush 12, 2) := by decide +kernel
set_option maxRecDepth 100000 in
theorem dX9_init_179 : decode cX9_init 179 = .ok (.newarray .int, 2) := by decide +kernel
set_option maxRecDepth 100000 in
theorem dX9_init_181 : decode cX9_init 181 = .ok (.putfield 81, 3) := by decide +kernel
set_option maxRecDepth 100000 in
theorem dX9_init_184 : decode cX9_init 184 = .ok (.aload_n 0, 1) := by decide +kernel
set_option maxRecDepth 100000 in
theorem dX9_init_185 : decode cX9_init 185 = .ok (.iconst 3, 1) := by decide +kernel
set_option maxRecDepth 100000 in
theorem dX9_init_186 : decode cX9_init 186 = .ok (.newarray .int, 2) := by decide +kernel
set_option maxRecDepth 100000 in
theorem dX9_init_188 : decode cX9_init 188 = .ok (.putfield 84, 3) := by decide +kernel
set_option maxRecDepth 100000 in
theorem dX9_init_191 : decode cX9_init 191 = .ok (.aload_n 0, 1) := by decide +kernel
set_option maxRecDepth 100000 in
theorem dX9_init_192 : decode cX9_init 192 = .ok (.iconst 3, 1) := by decide +kernel
set_option maxRecDepth 100000 in
theorem dX9_init_193 : decode cX9_init 193 = .ok (.newarray .int, 2) := by decide +kernel
set_option maxRecDepth 100000 in
theorem dX9_init_195 : decode cX9_init 195 = .ok (.putfield 87, 3) := by decide +kernel
set_option maxRecDepth 100000 in
theorem dX9_init_198 : decode cX9_init 198 = .ok (.aload_n 0, 1) := by decide +kernel
set_option maxRecDepth 100000 in
theorem dX9_init_199 : decode cX9_init 199 = .ok (.iconst 3, 1) := by decide +kernel
set_option maxRecDepth 100000 in
theorem dX9_init_200 : decode cX9_init 200 = .ok (.newarray .int, 2) := by decide +kernel
set_option maxRecDepth 100000 in
theorem dX9_init_202 : decode cX9_init 202 = .ok (.putfield 90, 3) := by decide +kernel
set_option maxRecDepth 100000 in
theorem dX9_init_205 : decode cX9_init 205 = .ok (.aload_n 0, 1) := by decide +kernel
set_option maxRecDepth 100000 in
theorem dX9_init_206 : decode cX9_init 206 = .ok (.bipush 12, 2) := by decide +kernel
set_option maxRecDepth 100000 in
theorem dX9_init_208 : decode cX9_init 208 = .ok (.newarray .int, 2) := by decide +kernel
set_option maxRecDepth 100000 in
theorem dX9_init_210 : decode cX9_init 210 = .ok (.putfield 93, 3) := by decide +kernel
set_option maxRecDepth 100000 in
theorem dX9_init_213 : decode cX9_init 213 = .ok (.aload_n 0, 1) := by decide +kernel
set_option maxRecDepth 100000 in
theorem dX9_init_214 : decode cX9_init 214 = .ok (.iconst 3, 1) := by decide +kernel
set_option maxRecDepth 100000 in
theorem dX9_init_215 : decode cX9_init 215 = .ok (.newarray .int, 2) := by decide +kernel
set_option maxRecDepth 100000 in
theorem dX9_init_217 : decode cX9_init 217 = .ok (.putfield 96, 3) := by decide +kernel
set_option maxRecDepth 100000 in
theorem dX9_init_220 : decode cX9_init 220 = .ok (.aload_n 0, 1) := by decide +kernel
set_option maxRecDepth 100000 in
theorem dX9_init_221 : decode cX9_init 221 = .ok (.iconst 3, 1) := by decide +kernel
set_option maxRecDepth 100000 in
theorem dX9_init_222 : decode cX9_init 222 = .ok (.newarray .int, 2) := by decide +kernel
set_option maxRecDepth 100000 in
theorem dX9_init_224 : decode cX9_init 224 = .ok (.putfield 99, 3) := by decide +kernel
set_option maxRecDepth 100000 in
theorem dX9_init_227 : decode cX9_init 227 = .ok (.aload_n 0, 1) := by decide +kernel
set_option maxRecDepth 100000 in
theorem dX9_init_228 : decode cX9_init 228 = .ok (.bipush 12, 2) := by decide +kernel
set_option maxRecDepth 100000 in
theorem dX9_init_230 : decode cX9_init 230 = .ok (.newarray .int, 2) := by decide +kernel
set_option maxRecDepth 100000 in
theorem dX9_init_232 : decode cX9_init 232 = .ok (.putfield 102, 3) := by decide +kernel
set_option maxRecDepth 100000 in
theorem dX9_init_235 : decode cX9_init 235 = .ok (.aload_n 0, 1) := by decide +kernel
set_option maxRecDepth 100000 in
theorem dX9_init_236 : decode cX9_init 236 = .ok (.bipush 96, 2) := by decide +kernel
set_option maxRecDepth 100000 in
theorem dX9_init_238 : decode cX9_init 238 = .ok (.newarray .int, 2) := by decide +kernel
set_option maxRecDepth 100000 in
theorem dX9_init_240 : decode cX9_init 240 = .ok (.putfield 105, 3) := by decide +kernel
set_option maxRecDepth 100000 in
theorem dX9_init_243 : decode cX9_init 243 = .ok (.aload_n 0, 1) := by decide +kernel
set_option maxRecDepth 100000 in
theorem dX9_init_244 : decode cX9_init 244 = .ok (.sipush 128, 3) := by decide +kernel
set_option maxRecDepth 100000 in
theorem dX9_init_247 : decode cX9_init 247 = .ok (.newarray .int, 2) := by decide +kernel
set_option maxRecDepth 100000 in
theorem dX9_init_249 : decode cX9_init 249 = .ok (.putfield 108, 3) := by decide +kernel
set_option maxRecDepth 100000 in
theorem dX9_init_252 : decode cX9_init 252 = .ok (.aload_n 0, 1) := by decide +kernel
set_option maxRecDepth 100000 in
theorem dX9_init_253 : decode cX9_init 253 = .ok (.bipush 10, 2) := by decide +kernel
set_option maxRecDepth 100000 in
theorem dX9_init_255 : decode cX9_init 255 = .ok (.newarray .boolean, 2) := by decide +kernel
set_option maxRecDepth 100000 in
theorem dX9_init_257 : decode cX9_init 257 = .ok (.putfield 111, 3) := by decide +kernel
set_option maxRecDepth 100000 in
theorem dX9_init_260 : decode cX9_init 260 = .ok (.aload_n 0, 1) := by decide +kernel
set_option maxRecDepth 100000 in
theorem dX9_init_261 : decode cX9_init 261 = .ok (.bipush 10, 2) := by decide +kernel
set_option maxRecDepth 100000 in
theorem dX9_init_263 : decode cX9_init 263 = .ok (.newarray .int, 2) := by decide +kernel
set_option maxRecDepth 100000 in
theorem dX9_init_265 : decode cX9_init 265 = .ok (.putfield 115, 3) := by decide +kernel
set_option maxRecDepth 100000 in
theorem dX9_init_268 : decode cX9_init 268 = .ok (.aload_n 0, 1) := by decide +kernel
set_option maxRecDepth 100000 in
theorem dX9_init_269 : decode cX9_init 269 = .ok (.iconst 4, 1) := by decide +kernel
set_option maxRecDepth 100000 in
theorem dX9_init_270 : decode cX9_init 270 = .ok (.newarray .int, 2) := by decide +kernel
set_option maxRecDepth 100000 in
theorem dX9_init_272 : decode cX9_init 272 = .ok (.putfield 118, 3) := by decide +kernel
set_option maxRecDepth 100000 in
theorem dX9_init_275 : decode cX9_init 275 = .ok (.aload_n 0, 1) := by decide +kernel
set_option maxRecDepth 100000 in
theorem dX9_init_276 : decode cX9_init 276 = .ok (.sipush 128, 3) := by decide +kernel
set_option maxRecDepth 100000 in
theorem dX9_init_279 : decode cX9_init 279 = .ok (.newarray .int, 2) := by decide +kernel
set_option maxRecDepth 100000 in
theorem dX9_init_281 : decode cX9_init 281 = .ok (.putfield 121, 3) := by decide +kernel
set_option maxRecDepth 100000 in
theorem dX9_init_284 : decode cX9_init 284 = .ok (.aload_n 0, 1) := by decide +kernel
set_option maxRecDepth 100000 in
theorem dX9_init_285 : decode cX9_init 285 = .ok (.sipush 128, 3) := by decide +kernel
set_option maxRecDepth 100000 in
theorem dX9_init_288 : decode cX9_init 288 = .ok (.newarray .int, 2) := by decide +kernel
set_option maxRecDepth 100000 in
theorem dX9_init_290 : decode cX9_init 290 = .ok (.putfield 124, 3) := by decide +kernel
set_option maxRecDepth 100000 in
theorem dX9_init_293 : decode cX9_init 293 = .ok (.iconst 0, 1) := by decide +kernel
set_option maxRecDepth 100000 in
theorem dX9_init_294 : decode cX9_init 294 = .ok (.istore_n 1, 1) := by decide +kernel
set_option maxRecDepth 100000 in
theorem dX9_init_295 : decode cX9_init 295 = .ok (.iload_n 1, 1) := by decide +kernel
set_option maxRecDepth 100000 in
theorem dX9_init_296 : decode cX9_init 296 = .ok (.iconst 4, 1) := by decide +kernel
set_option maxRecDepth 100000 in
theorem dX9_init_297 : decode cX9_init 297 = .ok (.if_icmp .ge 25, 3) := by decide +kernel
set_option maxRecDepth 100000 in
theorem dX9_init_300 : decode cX9_init 300 = .ok (.aload_n 0, 1) := by decide +kernel
set_option maxRecDepth 100000 in
theorem dX9_init_301 : decode cX9_init 301 = .ok (.getfield 37, 3) := by decide +kernel
set_option maxRecDepth 100000 in
theorem dX9_init_304 : decode cX9_init 304 = .ok (.iload_n 1, 1) := by decide +kernel
set_option maxRecDepth 100000 in
theorem dX9_init_305 : decode cX9_init 305 = .ok (.bipush 100, 2) := by decide +kernel
set_option maxRecDepth 100000 in
theorem dX9_init_307 : decode cX9_init 307 = .ok (.iastore, 1) := by decide +kernel
set_option maxRecDepth 100000 in
theorem dX9_init_308 : decode cX9_init 308 = .ok (.aload_n 0, 1) := by decide +kernel
set_option maxRecDepth 100000 in
theorem dX9_init_309 : decode cX9_init 309 = .ok (.getfield 40, 3) := by decide +kernel
set_option maxRecDepth 100000 in
theorem dX9_init_312 : decode cX9_init 312 = .ok (.iload_n 1, 1) := by decide +kernel
set_option maxRecDepth 100000 in
theorem dX9_init_313 : decode cX9_init 313 = .ok (.bipush 48, 2) := by decide +kernel
set_option maxRecDepth 100000 in
theorem dX9_init_315 : decode cX9_init 315 = .ok (.iastore, 1) := by decide +kernel
set_option maxRecDepth 100000 in
theorem dX9_init_316 : decode cX9_init 316 = .ok (.iinc 1 1, 3) := by decide +kernel
set_option maxRecDepth 100000 in
theorem dX9_init_319 : decode cX9_init 319 = .ok (.goto (-24), 3) := by decide +kernel
set_option maxRecDepth 100000 in
theorem dX9_init_322 : decode cX9_init 322 = .ok (.iconst 0, 1) := by decide +kernel
set_option maxRecDepth 100000 in
theorem dX9_init_323 : decode cX9_init 323 = .ok (.istore_n 1, 1) := by decide +kernel
set_option maxRecDepth 100000 in
theorem dX9_init_324 : decode cX9_init 324 = .ok (.iload_n 1, 1) := by decide +kernel
set_option maxRecDepth 100000 in
theorem dX9_init_325 : decode cX9_init 325 = .ok (.bipush 12, 2) := by decide +kernel
set_option maxRecDepth 100000 in
theorem dX9_init_327 : decode cX9_init 327 = .ok (.if_icmp .ge 16, 3) := by decide +kernel
set_option maxRecDepth 100000 in
theorem dX9_init_330 : decode cX9_init 330 = .ok (.aload_n 0, 1) := by decide +kernel
set_option maxRecDepth 100000 in
theorem dX9_init_331 : decode cX9_init 331 = .ok (.getfield 68, 3) := by decide +kernel
set_option maxRecDepth 100000 in
theorem dX9_init_334 : decode cX9_init 334 = .ok (.iload_n 1, 1) := by decide +kernel
set_option maxRecDepth 100000 in
theorem dX9_init_335 : decode cX9_init 335 = .ok (.iconst (-1), 1) := by decide +kernel
set_option maxRecDepth 100000 in
theorem dX9_init_336 : decode cX9_init 336 = .ok (.iastore, 1) := by decide +kernel
set_option maxRecDepth 100000 in
theorem dX9_init_337 : decode cX9_init 337 = .ok (.iinc 1 1, 3) := by decide +kernel
set_option maxRecDepth 100000 in
theorem dX9_init_340 : decode cX9_init 340 = .ok (.goto (-16), 3) := by decide +kernel
set_option maxRecDepth 100000 in
theorem dX9_init_343 : decode cX9_init 343 = .ok (.return_, 1) := by decide +kernel
set_option maxRecDepth 100000 in
theorem dX9_within_0 : decode cX9_within 0 = .ok (.iload_n 0, 1) := by decide +kernel
set_option maxRecDepth 100000 in
theorem dX9_within_1 : decode cX9_within 1 = .ok (.iload_n 1, 1) := by decide +kernel
set_option maxRecDepth 100000 in
theorem dX9_within_2 : decode cX9_within 2 = .ok (.if_icmp .lt 12, 3) := by decide +kernel
set_option maxRecDepth 100000 in
theorem dX9_within_5 : decode cX9_within 5 = .ok (.iload_n 0, 1) := by decide +kernel
set_option maxRecDepth 100000 in
theorem dX9_within_6 : decode cX9_within 6 = .ok (.iload_n 2, 1) := by decide +kernel
set_option maxRecDepth 100000 in
theorem dX9_within_7 : decode cX9_within 7 = .ok (.if_icmp .gt 7, 3) := by decide +kernel
set_option maxRecDepth 100000 in
theorem dX9_within_10 : decode cX9_within 10 = .ok (.iconst 1, 1) := by decide +kernel
set_option maxRecDepth 100000 in
theorem dX9_within_11 : decode cX9_within 11 = .ok (.goto 4, 3) := by decide +kernel
set_option maxRecDepth 100000 in
theorem dX9_within_14 : decode cX9_within 14 = .ok (.iconst 0, 1) := by decide +kernel
set_option maxRecDepth 100000 in
theorem dX9_within_15 : decode cX9_within 15 = .ok (.ireturn, 1) := by decide +kernel
set_option maxRecDepth 100000 in
theorem dX9_size_0 : decode cX9_size 0 = .ok (.iload_n 0, 1) := by decide +kernel
set_option maxRecDepth 100000 in
theorem dX9_size_1 : decode cX9_size 1 = .ok (.ifCond .ge 8, 3) := by decide +kernel
set_option maxRecDepth 100000 in
theorem dX9_size_4 : decode cX9_size 4 = .ok (.iload_n 0, 1) := by decide +kernel
set_option maxRecDepth 100000 in
theorem dX9_size_5 : decode cX9_size 5 = .ok (.ineg, 1) := by decide +kernel
set_option maxRecDepth 100000 in
theorem dX9_size_6 : decode cX9_size 6 = .ok (.goto 4, 3) := by decide +kernel
set_option maxRecDepth 100000 in
theorem dX9_size_9 : decode cX9_size 9 = .ok (.iload_n 0, 1) := by decide +kernel
set_option maxRecDepth 100000 in
theorem dX9_size_10 : decode cX9_size 10 = .ok (.ireturn, 1) := by decide +kernel
set_option maxRecDepth 100000 in
theorem dX9_lesser_0 : decode cX9_lesser 0 = .ok (.iload_n 0, 1) := by decide +kernel
set_option maxRecDepth 100000 in
theorem dX9_lesser_1 : decode cX9_lesser 1 = .ok (.iload_n 1, 1) := by decide +kernel
set_option maxRecDepth 100000 in
theorem dX9_lesser_2 : decode cX9_lesser 2 = .ok (.if_icmp .ge 7, 3) := by decide +kernel
set_option maxRecDepth 100000 in
theorem dX9_lesser_5 : decode cX9_lesser 5 = .ok (.iload_n 0, 1) := by decide +kernel
set_option maxRecDepth 100000 in
theorem dX9_lesser_6 : decode cX9_lesser 6 = .ok (.goto 4, 3) := by decide +kernel
set_option maxRecDepth 100000 in
theorem dX9_lesser_9 : decode cX9_lesser 9 = .ok (.iload_n 1, 1) := by decide +kernel
set_option maxRecDepth 100000 in
theorem dX9_lesser_10 : decode cX9_lesser 10 = .ok (.ireturn, 1) := by decide +kernel
set_option maxRecDepth 100000 in
theorem dX9_letters_0 : decode cX9_letters 0 = .ok (.iconst 0, 1) := by decide +kernel
set_option maxRecDepth 100000 in
theorem dX9_letters_1 : decode cX9_letters 1 = .ok (.istore_n 3, 1) := by decide +kernel
set_option maxRecDepth 100000 in
theorem dX9_letters_2 : decode cX9_letters 2 = .ok (.iconst 0, 1) := by decide +kernel
set_option maxRecDepth 100000 in
theorem dX9_letters_3 : decode cX9_letters 3 = .ok (.istore 4, 2) := by decide +kernel
set_option maxRecDepth 100000 in
theorem dX9_letters_5 : decode cX9_letters 5 = .ok (.iconst 0, 1) := by decide +kernel
set_option maxRecDepth 100000 in
theorem dX9_letters_6 : decode cX9_letters 6 = .ok (.istore 5, 2) := by decide +kernel
set_option maxRecDepth 100000 in
theorem dX9_letters_8 : decode cX9_letters 8 = .ok (.iload 5, 2) := by decide +kernel
set_option maxRecDepth 100000 in
theorem dX9_letters_10 : decode cX9_letters 10 = .ok (.bipush 8, 2) := by decide +kernel
set_option maxRecDepth 100000 in
theorem dX9_letters_12 : decode cX9_letters 12 = .ok (.if_icmp .ge 73, 3) := by decide +kernel
set_option maxRecDepth 100000 in
theorem dX9_letters_15 : decode cX9_letters 15 = .ok (.lload_n 1, 1) := by decide +kernel
set_option maxRecDepth 100000 in
theorem dX9_letters_16 : decode cX9_letters 16 = .ok (.bipush 8, 2) := by decide +kernel
set_option maxRecDepth 100000 in
theorem dX9_letters_18 : decode cX9_letters 18 = .ok (.iload 5, 2) := by decide +kernel
set_option maxRecDepth 100000 in
theorem dX9_letters_20 : decode cX9_letters 20 = .ok (.imul, 1) := by decide +kernel
set_option maxRecDepth 100000 in
theorem dX9_letters_21 : decode cX9_letters 21 = .ok (.lshr, 1) := by decide +kernel
set_option maxRecDepth 100000 in
theorem dX9_letters_22 : decode cX9_letters 22 = .ok (.ldc2_w 127, 3) := by decide +kernel
set_option maxRecDepth 100000 in
theorem dX9_letters_25 : decode cX9_letters 25 = .ok (.land, 1) := by decide +kernel
set_option maxRecDepth 100000 in
theorem dX9_letters_26 : decode cX9_letters 26 = .ok (.l2i, 1) := by decide +kernel
set_option maxRecDepth 100000 in
theorem dX9_letters_27 : decode cX9_letters 27 = .ok (.istore 6, 2) := by decide +kernel
set_option maxRecDepth 100000 in
theorem dX9_letters_29 : decode cX9_letters 29 = .ok (.iload 6, 2) := by decide +kernel
set_option maxRecDepth 100000 in
theorem dX9_letters_31 : decode cX9_letters 31 = .ok (.bipush 126, 2) := by decide +kernel
set_option maxRecDepth 100000 in
theorem dX9_letters_33 : decode cX9_letters 33 = .ok (.if_icmp .gt 13, 3) := by decide +kernel
set_option maxRecDepth 100000 in
theorem dX9_letters_36 : decode cX9_letters 36 = .ok (.iload 4, 2) := by decide +kernel
set_option maxRecDepth 100000 in
theorem dX9_letters_38 : decode cX9_letters 38 = .ok (.ifCond .eq 11, 3) := by decide +kernel
set_option maxRecDepth 100000 in
theorem dX9_letters_41 : decode cX9_letters 41 = .ok (.iload 6, 2) := by decide +kernel
set_option maxRecDepth 100000 in
theorem dX9_letters_43 : decode cX9_letters 43 = .ok (.ifCond .eq 6, 3) := by decide +kernel
set_option maxRecDepth 100000 in
theorem dX9_letters_46 : decode cX9_letters 46 = .ok (.bipush (-102), 2) := by decide +kernel
set_option maxRecDepth 100000 in
theorem dX9_letters_48 : decode cX9_letters 48 = .ok (.ireturn, 1) := by decide +kernel
set_option maxRecDepth 100000 in
theorem dX9_letters_49 : decode cX9_letters 49 = .ok (.iload 4, 2) := by decide +kernel
set_option maxRecDepth 100000 in
theorem dX9_letters_51 : decode cX9_letters 51 = .ok (.ifCond .ne 8, 3) := by decide +kernel
set_option maxRecDepth 100000 in
theorem dX9_letters_54 : decode cX9_letters 54 = .ok (.iload 6, 2) := by decide +kernel
set_option maxRecDepth 100000 in
theorem dX9_letters_56 : decode cX9_letters 56 = .ok (.ifCond .ne 7, 3) := by decide +kernel
set_option maxRecDepth 100000 in
theorem dX9_letters_59 : decode cX9_letters 59 = .ok (.iconst 1, 1) := by decide +kernel
set_option maxRecDepth 100000 in
theorem dX9_letters_60 : decode cX9_letters 60 = .ok (.goto 4, 3) := by decide +kernel
set_option maxRecDepth 100000 in
theorem dX9_letters_63 : decode cX9_letters 63 = .ok (.iconst 0, 1) := by decide +kernel
set_option maxRecDepth 100000 in
theorem dX9_letters_64 : decode cX9_letters 64 = .ok (.istore 4, 2) := by decide +kernel
set_option maxRecDepth 100000 in
theorem dX9_letters_66 : decode cX9_letters 66 = .ok (.iload_n 3, 1) := by decide +kernel
set_option maxRecDepth 100000 in
theorem dX9_letters_67 : decode cX9_letters 67 = .ok (.iload 6, 2) := by decide +kernel
set_option maxRecDepth 100000 in
theorem dX9_letters_69 : decode cX9_letters 69 = .ok (.ifCond .ne 7, 3) := by decide +kernel
set_option maxRecDepth 100000 in
theorem dX9_letters_72 : decode cX9_letters 72 = .ok (.iconst 0, 1) := by decide +kernel
set_option maxRecDepth 100000 in
theorem dX9_letters_73 : decode cX9_letters 73 = .ok (.goto 4, 3) := by decide +kernel
set_option maxRecDepth 100000 in
theorem dX9_letters_76 : decode cX9_letters 76 = .ok (.iconst 1, 1) := by decide +kernel
set_option maxRecDepth 100000 in
theorem dX9_letters_77 : decode cX9_letters 77 = .ok (.iadd, 1) := by decide +kernel
set_option maxRecDepth 100000 in
theorem dX9_letters_78 : decode cX9_letters 78 = .ok (.istore_n 3, 1) := by decide +kernel
set_option maxRecDepth 100000 in
theorem dX9_letters_79 : decode cX9_letters 79 = .ok (.iinc 5 1, 3) := by decide +kernel
set_option maxRecDepth 100000 in
theorem dX9_letters_82 : decode cX9_letters 82 = .ok (.goto (-74), 3) := by decide +kernel
set_option maxRecDepth 100000 in
theorem dX9_letters_85 : decode cX9_letters 85 = .ok (.aload_n 0, 1) := by decide +kernel
set_option maxRecDepth 100000 in
theorem dX9_letters_86 : decode cX9_letters 86 = .ok (.getfield 129, 3) := by decide +kernel
set_option maxRecDepth 100000 in
theorem dX9_letters_89 : decode cX9_letters 89 = .ok (.iload_n 3, 1) := by decide +kernel
set_option maxRecDepth 100000 in
theorem dX9_letters_90 : decode cX9_letters 90 = .ok (.iadd, 1) := by decide +kernel
set_option maxRecDepth 100000 in
theorem dX9_letters_91 : decode cX9_letters 91 = .ok (.bipush 80, 2) := by decide +kernel
set_option maxRecDepth 100000 in
theorem dX9_letters_93 : decode cX9_letters 93 = .ok (.if_icmp .le 6, 3) := by decide +kernel
set_option maxRecDepth 100000 in
theorem dX9_letters_96 : decode cX9_letters 96 = .ok (.bipush (-104), 2) := by decide +kernel
set_option maxRecDepth 100000 in
theorem dX9_letters_98 : decode cX9_letters 98 = .ok (.ireturn, 1) := by decide +kernel
set_option maxRecDepth 100000 in
theorem dX9_letters_99 : decode cX9_letters 99 = .ok (.iconst 0, 1) := by decide +kernel
set_option maxRecDepth 100000 in
theorem dX9_letters_100 : decode cX9_letters 100 = .ok (.istore 5, 2) := by decide +kernel
set_option maxRecDepth 100000 in
theorem dX9_letters_102 : decode cX9_letters 102 = .ok (.iload 5, 2) := by decide +kernel
set_option maxRecDepth 100000 in
theorem dX9_letters_104 : decode cX9_letters 104 = .ok (.iload_n 3, 1) := by decide +kernel
set_option maxRecDepth 100000 in
theorem dX9_letters_105 : decode cX9_letters 105 = .ok (.if_icmp .ge 30, 3) := by decide +kernel
set_option maxRecDepth 100000 in
theorem dX9_letters_108 : decode cX9_letters 108 = .ok (.aload_n 0, 1) := by decide +kernel
set_option maxRecDepth 100000 in
theorem dX9_letters_109 : decode cX9_letters 109 = .ok (.getfield 71, 3) := by decide +kernel
set_option maxRecDepth 100000 in
theorem dX9_letters_112 : decode cX9_letters 112 = .ok (.aload_n 0, 1) := by decide +kernel
set_option maxRecDepth 100000 in
theorem dX9_letters_113 : decode cX9_letters 113 = .ok (.getfield 129, 3) := by decide +kernel
set_option maxRecDepth 100000 in
theorem dX9_letters_116 : decode cX9_letters 116 = .ok (.iload 5, 2) := by decide +kernel
set_option maxRecDepth 100000 in
theorem dX9_letters_118 : decode cX9_letters 118 = .ok (.iadd, 1) := by decide +kernel
set_option maxRecDepth 100000 in
theorem dX9_letters_119 : decode cX9_letters 119 = .ok (.lload_n 1, 1) := by decide +kernel
set_option maxRecDepth 100000 in
theorem dX9_letters_120 : decode cX9_letters 120 = .ok (.bipush 8, 2) := by decide +kernel
set_option maxRecDepth 100000 in
theorem dX9_letters_122 : decode cX9_letters 122 = .ok (.iload 5, 2) := by decide +kernel
set_option maxRecDepth 100000 in
theorem dX9_letters_124 : decode cX9_letters 124 = .ok (.imul, 1) := by decide +kernel
set_option maxRecDepth 100000 in
theorem dX9_letters_125 : decode cX9_letters 125 = .ok (.lshr, 1) := by decide +kernel
set_option maxRecDepth 100000 in
theorem dX9_letters_126 : decode cX9_letters 126 = .ok (.l2i, 1) := by decide +kernel
set_option maxRecDepth 100000 in
theorem dX9_letters_127 : decode cX9_letters 127 = .ok (.i2b, 1) := by decide +kernel
set_option maxRecDepth 100000 in
theorem dX9_letters_128 : decode cX9_letters 128 = .ok (.bastore, 1) := by decide +kernel
set_option maxRecDepth 100000 in
theorem dX9_letters_129 : decode cX9_letters 129 = .ok (.iinc 5 1, 3) := by decide +kernel
set_option maxRecDepth 100000 in
theorem dX9_letters_132 : decode cX9_letters 132 = .ok (.goto (-30), 3) := by decide +kernel
set_option maxRecDepth 100000 in
theorem dX9_letters_135 : decode cX9_letters 135 = .ok (.aload_n 0, 1) := by decide +kernel
set_option maxRecDepth 100000 in
theorem dX9_letters_136 : decode cX9_letters 136 = .ok (.dup, 1) := by decide +kernel
set_option maxRecDepth 100000 in
theorem dX9_letters_137 : decode cX9_letters 137 = .ok (.getfield 129, 3) := by decide +kernel
set_option maxRecDepth 100000 in
theorem dX9_letters_140 : decode cX9_letters 140 = .ok (.iload_n 3, 1) := by decide +kernel
set_option maxRecDepth 100000 in
theorem dX9_letters_141 : decode cX9_letters 141 = .ok (.iadd, 1) := by decide +kernel
set_option maxRecDepth 100000 in
theorem dX9_letters_142 : decode cX9_letters 142 = .ok (.putfield 129, 3) := by decide +kernel
set_option maxRecDepth 100000 in
theorem dX9_letters_145 : decode cX9_letters 145 = .ok (.aload_n 0, 1) := by decide +kernel
set_option maxRecDepth 100000 in
theorem dX9_letters_146 : decode cX9_letters 146 = .ok (.getfield 129, 3) := by decide +kernel
set_option maxRecDepth 100000 in
theorem dX9_letters_149 : decode cX9_letters 149 = .ok (.ireturn, 1) := by decide +kernel
set_option maxRecDepth 100000 in
theorem dX9_blank_0 : decode cX9_blank 0 = .ok (.aload_n 0, 1) := by decide +kernel
set_option maxRecDepth 100000 in
theorem dX9_blank_1 : decode cX9_blank 1 = .ok (.getfield 129, 3) := by decide +kernel
set_option maxRecDepth 100000 in
theorem dX9_blank_4 : decode cX9_blank 4 = .ok (.istore_n 1, 1) := by decide +kernel
set_option maxRecDepth 100000 in
theorem dX9_blank_5 : decode cX9_blank 5 = .ok (.aload_n 0, 1) := by decide +kernel
set_option maxRecDepth 100000 in
theorem dX9_blank_6 : decode cX9_blank 6 = .ok (.iconst 0, 1) := by decide +kernel
set_option maxRecDepth 100000 in
theorem dX9_blank_7 : decode cX9_blank 7 = .ok (.putfield 129, 3) := by decide +kernel
set_option maxRecDepth 100000 in
theorem dX9_blank_10 : decode cX9_blank 10 = .ok (.iload_n 1, 1) := by decide +kernel
set_option maxRecDepth 100000 in
theorem dX9_blank_11 : decode cX9_blank 11 = .ok (.ireturn, 1) := by decide +kernel
set_option maxRecDepth 100000 in
theorem dX9_isDigit_0 : decode cX9_isDigit 0 = .ok (.iload_n 0, 1) := by decide +kernel
set_option maxRecDepth 100000 in
theorem dX9_isDigit_1 : decode cX9_isDigit 1 = .ok (.bipush 48, 2) := by decide +kernel
set_option maxRecDepth 100000 in
theorem dX9_isDigit_3 : decode cX9_isDigit 3 = .ok (.bipush 57, 2) := by decide +kernel
set_option maxRecDepth 100000 in
theorem dX9_isDigit_5 : decode cX9_isDigit 5 = .ok (.invokestatic 132, 3) := by decide +kernel
set_option maxRecDepth 100000 in
theorem dX9_isDigit_8 : decode cX9_isDigit 8 = .ok (.ireturn, 1) := by decide +kernel
set_option maxRecDepth 100000 in
theorem dX9_most_0 : decode cX9_most 0 = .ok (.iload_n 0, 1) := by decide +kernel
set_option maxRecDepth 100000 in
theorem dX9_most_1 : decode cX9_most 1 = .ok (.ifCond .ne 8, 3) := by decide +kernel
set_option maxRecDepth 100000 in
theorem dX9_most_4 : decode cX9_most 4 = .ok (.bipush 30, 2) := by decide +kernel
set_option maxRecDepth 100000 in
theorem dX9_most_6 : decode cX9_most 6 = .ok (.goto 35, 3) := by decide +kernel
set_option maxRecDepth 100000 in
theorem dX9_most_9 : decode cX9_most 9 = .ok (.iload_n 0, 1) := by decide +kernel
set_option maxRecDepth 100000 in
theorem dX9_most_10 : decode cX9_most 10 = .ok (.iconst 1, 1) := by decide +kernel
set_option maxRecDepth 100000 in
theorem dX9_most_11 : decode cX9_most 11 = .ok (.if_icmp .ne 8, 3) := by decide +kernel
set_option maxRecDepth 100000 in
theorem dX9_most_14 : decode cX9_most 14 = .ok (.bipush 60, 2) := by decide +kernel
set_option maxRecDepth 100000 in
theorem dX9_most_16 : decode cX9_most 16 = .ok (.goto 25, 3) := by decide +kernel
set_option maxRecDepth 100000 in
theorem dX9_most_19 : decode cX9_most 19 = .ok (.iload_n 0, 1) := by decide +kernel
set_option maxRecDepth 100000 in
theorem dX9_most_20 : decode cX9_most 20 = .ok (.iconst 2, 1) := by decide +kernel
set_option maxRecDepth 100000 in
theorem dX9_most_21 : decode cX9_most 21 = .ok (.if_icmp .ne 8, 3) := by decide +kernel
set_option maxRecDepth 100000 in
theorem dX9_most_24 : decode cX9_most 24 = .ok (.bipush 40, 2) := by decide +kernel
set_option maxRecDepth 100000 in
theorem dX9_most_26 : decode cX9_most 26 = .ok (.goto 15, 3) := by decide +kernel
set_option maxRecDepth 100000 in
theorem dX9_most_29 : decode cX9_most 29 = .ok (.iload_n 0, 1) := by decide +kernel
set_option maxRecDepth 100000 in
theorem dX9_most_30 : decode cX9_most 30 = .ok (.iconst 5, 1) := by decide +kernel
set_option maxRecDepth 100000 in
theorem dX9_most_31 : decode cX9_most 31 = .ok (.if_icmp .ne 8, 3) := by decide +kernel
set_option maxRecDepth 100000 in
theorem dX9_most_34 : decode cX9_most 34 = .ok (.bipush 60, 2) := by decide +kernel
set_option maxRecDepth 100000 in
theorem dX9_most_36 : decode cX9_most 36 = .ok (.goto 5, 3) := by decide +kernel
set_option maxRecDepth 100000 in
theorem dX9_most_39 : decode cX9_most 39 = .ok (.bipush 99, 2) := by decide +kernel
set_option maxRecDepth 100000 in
theorem dX9_most_41 : decode cX9_most 41 = .ok (.ireturn, 1) := by decide +kernel
set_option maxRecDepth 100000 in
theorem dX9_markAhead_0 : decode cX9_markAhead 0 = .ok (.aload_n 0, 1) := by decide +kernel
set_option maxRecDepth 100000 in
theorem dX9_markAhead_1 : decode cX9_markAhead 1 = .ok (.getfield 136, 3) := by decide +kernel
set_option maxRecDepth 100000 in
theorem dX9_markAhead_4 : decode cX9_markAhead 4 = .ok (.ifCond .ne 7, 3) := by decide +kernel
set_option maxRecDepth 100000 in
theorem dX9_markAhead_7 : decode cX9_markAhead 7 = .ok (.iconst 0, 1) := by decide +kernel
set_option maxRecDepth 100000 in
theorem dX9_markAhead_8 : decode cX9_markAhead 8 = .ok (.goto 14, 3) := by decide +kernel
set_option maxRecDepth 100000 in
theorem dX9_markAhead_11 : decode cX9_markAhead 11 = .ok (.aload_n 0, 1) := by decide +kernel
set_option maxRecDepth 100000 in
theorem dX9_markAhead_12 : decode cX9_markAhead 12 = .ok (.getfield 93, 3) := by decide +kernel
set_option maxRecDepth 100000 in
theorem dX9_markAhead_15 : decode cX9_markAhead 15 = .ok (.aload_n 0, 1) := by decide +kernel
set_option maxRecDepth 100000 in
theorem dX9_markAhead_16 : decode cX9_markAhead 16 = .ok (.getfield 136, 3) := by decide +kernel
set_option maxRecDepth 100000 in
theorem dX9_markAhead_19 : decode cX9_markAhead 19 = .ok (.iconst 1, 1) := by decide +kernel
set_option maxRecDepth 100000 in
theorem dX9_markAhead_20 : decode cX9_markAhead 20 = .ok (.isub, 1) := by decide +kernel
set_option maxRecDepth 100000 in
theorem dX9_markAhead_21 : decode cX9_markAhead 21 = .ok (.iaload, 1) := by decide +kernel
set_option maxRecDepth 100000 in
theorem dX9_markAhead_22 : decode cX9_markAhead 22 = .ok (.ireturn, 1) := by decide +kernel
set_option maxRecDepth 100000 in
theorem dX9_fits_0 : decode cX9_fits 0 = .ok (.aload_n 0, 1) := by decide +kernel
set_option maxRecDepth 100000 in
theorem dX9_fits_1 : decode cX9_fits 1 = .ok (.getfield 139, 3) := by decide +kernel
set_option maxRecDepth 100000 in
theorem dX9_fits_4 : decode cX9_fits 4 = .ok (.iconst (-1), 1) := by decide +kernel
set_option maxRecDepth 100000 in
theorem dX9_fits_5 : decode cX9_fits 5 = .ok (.if_icmp .ne 56, 3) := by decide +kernel
set_option maxRecDepth 100000 in
theorem dX9_fits_8 : decode cX9_fits 8 = .ok (.iload_n 1, 1) := by decide +kernel
set_option maxRecDepth 100000 in
theorem dX9_fits_9 : decode cX9_fits 9 = .ok (.bipush 6, 2) := by decide +kernel
set_option maxRecDepth 100000 in
theorem dX9_fits_11 : decode cX9_fits 11 = .ok (.if_icmp .ne 25, 3) := by decide +kernel
set_option maxRecDepth 100000 in
theorem dX9_fits_14 : decode cX9_fits 14 = .ok (.iload_n 2, 1) := by decide +kernel
set_option maxRecDepth 100000 in
theorem dX9_fits_15 : decode cX9_fits 15 = .ok (.aload_n 0, 1) := by decide +kernel
set_option maxRecDepth 100000 in
theorem dX9_fits_16 : decode cX9_fits 16 = .ok (.invokevirtual 142, 3) := by decide +kernel
set_option maxRecDepth 100000 in
theorem dX9_fits_19 : decode cX9_fits 19 = .ok (.if_icmp .gt 17, 3) := by decide +kernel
set_option maxRecDepth 100000 in
theorem dX9_fits_22 : decode cX9_fits 22 = .ok (.bipush 10, 2) := by decide +kernel
set_option maxRecDepth 100000 in
theorem dX9_fits_24 : decode cX9_fits 24 = .ok (.iload_n 2, 1) := by decide +kernel
set_option maxRecDepth 100000 in
theorem dX9_fits_25 : decode cX9_fits 25 = .ok (.imul, 1) := by decide +kernel
set_option maxRecDepth 100000 in
theorem dX9_fits_26 : decode cX9_fits 26 = .ok (.bipush 9, 2) := by decide +kernel
set_option maxRecDepth 100000 in
theorem dX9_fits_28 : decode cX9_fits 28 = .ok (.iadd, 1) := by decide +kernel
set_option maxRecDepth 100000 in
theorem dX9_fits_29 : decode cX9_fits 29 = .ok (.aload_n 0, 1) := by decide +kernel
set_option maxRecDepth 100000 in
theorem dX9_fits_30 : decode cX9_fits 30 = .ok (.invokevirtual 142, 3) := by decide +kernel
set_option maxRecDepth 100000 in
theorem dX9_fits_33 : decode cX9_fits 33 = .ok (.if_icmp .le 7, 3) := by decide +kernel
set_option maxRecDepth 100000 in
theorem dX9_fits_36 : decode cX9_fits 36 = .ok (.iconst 1, 1) := by decide +kernel
set_option maxRecDepth 100000 in
theorem dX9_fits_37 : decode cX9_fits 37 = .ok (.goto 4, 3) := by decide +kernel
set_option maxRecDepth 100000 in
theorem dX9_fits_40 : decode cX9_fits 40 = .ok (.iconst 0, 1) := by decide +kernel
set_option maxRecDepth 100000 in
theorem dX9_fits_41 : decode cX9_fits 41 = .ok (.istore_n 3, 1) := by decide +kernel
set_option maxRecDepth 100000 in
theorem dX9_fits_42 : decode cX9_fits 42 = .ok (.iload_n 2, 1) := by decide +kernel
set_option maxRecDepth 100000 in
theorem dX9_fits_43 : decode cX9_fits 43 = .ok (.ifCond .gt 8, 3) := by decide +kernel
set_option maxRecDepth 100000 in
theorem dX9_fits_46 : decode cX9_fits 46 = .ok (.iload_n 1, 1) := by decide +kernel
set_option maxRecDepth 100000 in
theorem dX9_fits_47 : decode cX9_fits 47 = .ok (.iconst 5, 1) := by decide +kernel
set_option maxRecDepth 100000 in
theorem dX9_fits_48 : decode cX9_fits 48 = .ok (.if_icmp .ne 11, 3) := by decide +kernel
set_option maxRecDepth 100000 in
theorem dX9_fits_51 : decode cX9_fits 51 = .ok (.iload_n 3, 1) := by decide +kernel
set_option maxRecDepth 100000 in
theorem dX9_fits_52 : decode cX9_fits 52 = .ok (.ifCond .eq 7, 3) := by decide +kernel
set_option maxRecDepth 100000 in
theorem dX9_fits_55 : decode cX9_fits 55 = .ok (.iconst 1, 1) := by decide +kernel
set_option maxRecDepth 100000 in
theorem dX9_fits_56 : decode cX9_fits 56 = .ok (.goto 4, 3) := by decide +kernel
set_option maxRecDepth 100000 in
theorem dX9_fits_59 : decode cX9_fits 59 = .ok (.iconst 0, 1) := by decide +kernel
set_option maxRecDepth 100000 in
theorem dX9_fits_60 : decode cX9_fits 60 = .ok (.ireturn, 1) := by decide +kernel
set_option maxRecDepth 100000 in
theorem dX9_fits_61 : decode cX9_fits 61 = .ok (.bipush 10, 2) := by decide +kernel
set_option maxRecDepth 100000 in
theorem dX9_fits_63 : decode cX9_fits 63 = .ok (.aload_n 0, 1) := by decide +kernel
set_option maxRecDepth 100000 in
theorem dX9_fits_64 : decode cX9_fits 64 = .ok (.getfield 139, 3) := by decide +kernel
set_option maxRecDepth 100000 in
theorem dX9_fits_67 : decode cX9_fits 67 = .ok (.imul, 1) := by decide +kernel
set_option maxRecDepth 100000 in
theorem dX9_fits_68 : decode cX9_fits 68 = .ok (.iload_n 2, 1) := by decide +kernel
set_option maxRecDepth 100000 in
theorem dX9_fits_69 : decode cX9_fits 69 = .ok (.iadd, 1) := by decide +kernel
set_option maxRecDepth 100000 in
theorem dX9_fits_70 : decode cX9_fits 70 = .ok (.istore_n 3, 1) := by decide +kernel
set_option maxRecDepth 100000 in
theorem dX9_fits_71 : decode cX9_fits 71 = .ok (.aload_n 0, 1) := by decide +kernel
set_option maxRecDepth 100000 in
theorem dX9_fits_72 : decode cX9_fits 72 = .ok (.getfield 139, 3) := by decide +kernel
set_option maxRecDepth 100000 in
theorem dX9_fits_75 : decode cX9_fits 75 = .ok (.ifCond .le 29, 3) := by decide +kernel
set_option maxRecDepth 100000 in
theorem dX9_fits_78 : decode cX9_fits 78 = .ok (.iload_n 3, 1) := by decide +kernel
set_option maxRecDepth 100000 in
theorem dX9_fits_79 : decode cX9_fits 79 = .ok (.iload_n 1, 1) := by decide +kernel
set_option maxRecDepth 100000 in
theorem dX9_fits_80 : decode cX9_fits 80 = .ok (.invokestatic 146, 3) := by decide +kernel
set_option maxRecDepth 100000 in
theorem dX9_fits_83 : decode cX9_fits 83 = .ok (.if_icmp .gt 21, 3) := by decide +kernel
set_option maxRecDepth 100000 in
theorem dX9_fits_86 : decode cX9_fits 86 = .ok (.iload_n 1, 1) := by decide +kernel
set_option maxRecDepth 100000 in
theorem dX9_fits_87 : decode cX9_fits 87 = .ok (.bipush 6, 2) := by decide +kernel
set_option maxRecDepth 100000 in
theorem dX9_fits_89 : decode cX9_fits 89 = .ok (.if_icmp .ne 11, 3) := by decide +kernel
set_option maxRecDepth 100000 in
theorem dX9_fits_92 : decode cX9_fits 92 = .ok (.iload_n 3, 1) := by decide +kernel
set_option maxRecDepth 100000 in
theorem dX9_fits_93 : decode cX9_fits 93 = .ok (.aload_n 0, 1) := by decide +kernel
set_option maxRecDepth 100000 in
theorem dX9_fits_94 : decode cX9_fits 94 = .ok (.invokevirtual 142, 3) := by decide +kernel
set_option maxRecDepth 100000 in
theorem dX9_fits_97 : decode cX9_fits 97 = .ok (.if_icmp .le 7, 3) := by decide +kernel
set_option maxRecDepth 100000 in
theorem dX9_fits_100 : decode cX9_fits 100 = .ok (.iconst 1, 1) := by decide +kernel
set_option maxRecDepth 100000 in
theorem dX9_fits_101 : decode cX9_fits 101 = .ok (.goto 4, 3) := by decide +kernel
set_option maxRecDepth 100000 in
theorem dX9_fits_104 : decode cX9_fits 104 = .ok (.iconst 0, 1) := by decide +kernel
set_option maxRecDepth 100000 in
theorem dX9_fits_105 : decode cX9_fits 105 = .ok (.ireturn, 1) := by decide +kernel
set_option maxRecDepth 100000 in
theorem dX9_keep_0 : decode cX9_keep 0 = .ok (.iload_n 1, 1) := by decide +kernel
set_option maxRecDepth 100000 in
theorem dX9_keep_1 : decode cX9_keep 1 = .ok (.tableswitch 130 0 5 #[39, 55, 71, 97, 108, 119], 39) := by decide +kernel
set_option maxRecDepth 100000 in
theorem dX9_keep_40 : decode cX9_keep 40 = .ok (.aload_n 0, 1) := by decide +kernel
set_option maxRecDepth 100000 in
theorem dX9_keep_41 : decode cX9_keep 41 = .ok (.getfield 84, 3) := by decide +kernel
set_option maxRecDepth 100000 in
theorem dX9_keep_44 : decode cX9_keep 44 = .ok (.aload_n 0, 1) := by decide +kernel
set_option maxRecDepth 100000 in
theorem dX9_keep_45 : decode cX9_keep 45 = .ok (.getfield 150, 3) := by decide +kernel
set_option maxRecDepth 100000 in
theorem dX9_keep_48 : decode cX9_keep 48 = .ok (.aload_n 0, 1) := by decide +kernel
set_option maxRecDepth 100000 in
theorem dX9_keep_49 : decode cX9_keep 49 = .ok (.getfield 139, 3) := by decide +kernel
set_option maxRecDepth 100000 in
theorem dX9_keep_52 : decode cX9_keep 52 = .ok (.iastore, 1) := by decide +kernel
set_option maxRecDepth 100000 in
theorem dX9_keep_53 : decode cX9_keep 53 = .ok (.goto 101, 3) := by decide +kernel
set_option maxRecDepth 100000 in
theorem dX9_keep_56 : decode cX9_keep 56 = .ok (.aload_n 0, 1) := by decide +kernel
set_option maxRecDepth 100000 in
theorem dX9_keep_57 : decode cX9_keep 57 = .ok (.getfield 87, 3) := by decide +kernel
set_option maxRecDepth 100000 in
theorem dX9_keep_60 : decode cX9_keep 60 = .ok (.aload_n 0, 1) := by decide +kernel
set_option maxRecDepth 100000 in
theorem dX9_keep_61 : decode cX9_keep 61 = .ok (.getfield 150, 3) := by decide +kernel
set_option maxRecDepth 100000 in
theorem dX9_keep_64 : decode cX9_keep 64 = .ok (.aload_n 0, 1) := by decide +kernel
set_option maxRecDepth 100000 in
theorem dX9_keep_65 : decode cX9_keep 65 = .ok (.getfield 139, 3) := by decide +kernel
set_option maxRecDepth 100000 in
theorem dX9_keep_68 : decode cX9_keep 68 = .ok (.iastore, 1) := by decide +kernel
set_option maxRecDepth 100000 in
theorem dX9_keep_69 : decode cX9_keep 69 = .ok (.goto 85, 3) := by decide +kernel
set_option maxRecDepth 100000 in
theorem dX9_keep_72 : decode cX9_keep 72 = .ok (.aload_n 0, 1) := by decide +kernel
set_option maxRecDepth 100000 in
theorem dX9_keep_73 : decode cX9_keep 73 = .ok (.getfield 90, 3) := by decide +kernel
set_option maxRecDepth 100000 in
theorem dX9_keep_76 : decode cX9_keep 76 = .ok (.aload_n 0, 1) := by decide +kernel
set_option maxRecDepth 100000 in
theorem dX9_keep_77 : decode cX9_keep 77 = .ok (.getfield 150, 3) := by decide +kernel
set_option maxRecDepth 100000 in
theorem dX9_keep_80 : decode cX9_keep 80 = .ok (.aload_n 0, 1) := by decide +kernel
set_option maxRecDepth 100000 in
theorem dX9_keep_81 : decode cX9_keep 81 = .ok (.getfield 139, 3) := by decide +kernel
set_option maxRecDepth 100000 in
theorem dX9_keep_84 : decode cX9_keep 84 = .ok (.iastore, 1) := by decide +kernel
set_option maxRecDepth 100000 in
theorem dX9_keep_85 : decode cX9_keep 85 = .ok (.aload_n 0, 1) := by decide +kernel
set_option maxRecDepth 100000 in
theorem dX9_keep_86 : decode cX9_keep 86 = .ok (.dup, 1) := by decide +kernel
set_option maxRecDepth 100000 in
theorem dX9_keep_87 : decode cX9_keep 87 = .ok (.getfield 150, 3) := by decide +kernel
set_option maxRecDepth 100000 in
theorem dX9_keep_90 : decode cX9_keep 90 = .ok (.iconst 1, 1) := by decide +kernel
set_option maxRecDepth 100000 in
theorem dX9_keep_91 : decode cX9_keep 91 = .ok (.iadd, 1) := by decide +kernel
set_option maxRecDepth 100000 in
theorem dX9_keep_92 : decode cX9_keep 92 = .ok (.putfield 150, 3) := by decide +kernel
set_option maxRecDepth 100000 in
theorem dX9_keep_95 : decode cX9_keep 95 = .ok (.goto 59, 3) := by decide +kernel
set_option maxRecDepth 100000 in
theorem dX9_keep_98 : decode cX9_keep 98 = .ok (.aload_n 0, 1) := by decide +kernel
set_option maxRecDepth 100000 in
theorem dX9_keep_99 : decode cX9_keep 99 = .ok (.aload_n 0, 1) := by decide +kernel
set_option maxRecDepth 100000 in
theorem dX9_keep_100 : decode cX9_keep 100 = .ok (.getfield 139, 3) := by decide +kernel
set_option maxRecDepth 100000 in
theorem dX9_keep_103 : decode cX9_keep 103 = .ok (.putfield 153, 3) := by decide +kernel
set_option maxRecDepth 100000 in
theorem dX9_keep_106 : decode cX9_keep 106 = .ok (.goto 48, 3) := by decide +kernel
set_option maxRecDepth 100000 in
theorem dX9_keep_109 : decode cX9_keep 109 = .ok (.aload_n 0, 1) := by decide +kernel
set_option maxRecDepth 100000 in
theorem dX9_keep_110 : decode cX9_keep 110 = .ok (.aload_n 0, 1) := by decide +kernel
set_option maxRecDepth 100000 in
theorem dX9_keep_111 : decode cX9_keep 111 = .ok (.getfield 139, 3) := by decide +kernel
set_option maxRecDepth 100000 in
theorem dX9_keep_114 : decode cX9_keep 114 = .ok (.putfield 156, 3) := by decide +kernel
set_option maxRecDepth 100000 in
theorem dX9_keep_117 : decode cX9_keep 117 = .ok (.goto 37, 3) := by decide +kernel
set_option maxRecDepth 100000 in
theorem dX9_keep_120 : decode cX9_keep 120 = .ok (.aload_n 0, 1) := by decide +kernel
set_option maxRecDepth 100000 in
theorem dX9_keep_121 : decode cX9_keep 121 = .ok (.aload_n 0, 1) := by decide +kernel
set_option maxRecDepth 100000 in
theorem dX9_keep_122 : decode cX9_keep 122 = .ok (.getfield 139, 3) := by decide +kernel
set_option maxRecDepth 100000 in
theorem dX9_keep_125 : decode cX9_keep 125 = .ok (.putfield 159, 3) := by decide +kernel
set_option maxRecDepth 100000 in
theorem dX9_keep_128 : decode cX9_keep 128 = .ok (.goto 26, 3) := by decide +kernel
set_option maxRecDepth 100000 in
theorem dX9_keep_131 : decode cX9_keep 131 = .ok (.aload_n 0, 1) := by decide +kernel
set_option maxRecDepth 100000 in
theorem dX9_keep_132 : decode cX9_keep 132 = .ok (.getfield 93, 3) := by decide +kernel
set_option maxRecDepth 100000 in
theorem dX9_keep_135 : decode cX9_keep 135 = .ok (.aload_n 0, 1) := by decide +kernel
set_option maxRecDepth 100000 in
theorem dX9_keep_136 : decode cX9_keep 136 = .ok (.getfield 136, 3) := by decide +kernel
set_option maxRecDepth 100000 in
theorem dX9_keep_139 : decode cX9_keep 139 = .ok (.aload_n 0, 1) := by decide +kernel
set_option maxRecDepth 100000 in
theorem dX9_keep_140 : decode cX9_keep 140 = .ok (.getfield 139, 3) := by decide +kernel
set_option maxRecDepth 100000 in
theorem dX9_keep_143 : decode cX9_keep 143 = .ok (.iastore, 1) := by decide +kernel
set_option maxRecDepth 100000 in
theorem dX9_keep_144 : decode cX9_keep 144 = .ok (.aload_n 0, 1) := by decide +kernel
set_option maxRecDepth 100000 in
theorem dX9_keep_145 : decode cX9_keep 145 = .ok (.dup, 1) := by decide +kernel
set_option maxRecDepth 100000 in
theorem dX9_keep_146 : decode cX9_keep 146 = .ok (.getfield 136, 3) := by decide +kernel
set_option maxRecDepth 100000 in
theorem dX9_keep_149 : decode cX9_keep 149 = .ok (.iconst 1, 1) := by decide +kernel
set_option maxRecDepth 100000 in
theorem dX9_keep_150 : decode cX9_keep 150 = .ok (.iadd, 1) := by decide +kernel
set_option maxRecDepth 100000 in
theorem dX9_keep_151 : decode cX9_keep 151 = .ok (.putfield 136, 3) := by decide +kernel
set_option maxRecDepth 100000 in
theorem dX9_keep_154 : decode cX9_keep 154 = .ok (.aload_n 0, 1) := by decide +kernel
set_option maxRecDepth 100000 in
theorem dX9_keep_155 : decode cX9_keep 155 = .ok (.iconst (-1), 1) := by decide +kernel
set_option maxRecDepth 100000 in
theorem dX9_keep_156 : decode cX9_keep 156 = .ok (.putfield 139, 3) := by decide +kernel
set_option maxRecDepth 100000 in
theorem dX9_keep_159 : decode cX9_keep 159 = .ok (.return_, 1) := by decide +kernel
set_option maxRecDepth 100000 in
theorem dX9_behind_0 : decode cX9_behind 0 = .ok (.iload_n 1, 1) := by decide +kernel
set_option maxRecDepth 100000 in
theorem dX9_behind_1 : decode cX9_behind 1 = .ok (.tableswitch 131 0 5 #[39, 51, 63, 93, 105, 118], 39) := by decide +kernel
set_option maxRecDepth 100000 in
theorem dX9_behind_40 : decode cX9_behind 40 = .ok (.iload_n 2, 1) := by decide +kernel
set_option maxRecDepth 100000 in
theorem dX9_behind_41 : decode cX9_behind 41 = .ok (.bipush 120, 2) := by decide +kernel
set_option maxRecDepth 100000 in
theorem dX9_behind_43 : decode cX9_behind 43 = .ok (.if_icmp .ne 7, 3) := by decide +kernel
set_option maxRecDepth 100000 in
theorem dX9_behind_46 : decode cX9_behind 46 = .ok (.iconst 1, 1) := by decide +kernel
set_option maxRecDepth 100000 in
theorem dX9_behind_47 : decode cX9_behind 47 = .ok (.goto 4, 3) := by decide +kernel
set_option maxRecDepth 100000 in
theorem dX9_behind_50 : decode cX9_behind 50 = .ok (.iconst (-1), 1) := by decide +kernel
set_option maxRecDepth 100000 in
theorem dX9_behind_51 : decode cX9_behind 51 = .ok (.ireturn, 1) := by decide +kernel
set_option maxRecDepth 100000 in
theorem dX9_behind_52 : decode cX9_behind 52 = .ok (.iload_n 2, 1) := by decide +kernel
set_option maxRecDepth 100000 in
theorem dX9_behind_53 : decode cX9_behind 53 = .ok (.bipush 104, 2) := by decide +kernel
set_option maxRecDepth 100000 in
theorem dX9_behind_55 : decode cX9_behind 55 = .ok (.if_icmp .ne 7, 3) := by decide +kernel
set_option maxRecDepth 100000 in
theorem dX9_behind_58 : decode cX9_behind 58 = .ok (.iconst 2, 1) := by decide +kernel
set_option maxRecDepth 100000 in
theorem dX9_behind_59 : decode cX9_behind 59 = .ok (.goto 4, 3) := by decide +kernel
set_option maxRecDepth 100000 in
theorem dX9_behind_62 : decode cX9_behind 62 = .ok (.iconst (-1), 1) := by decide +kernel
set_option maxRecDepth 100000 in
theorem dX9_behind_63 : decode cX9_behind 63 = .ok (.ireturn, 1) := by decide +kernel
set_option maxRecDepth 100000 in
theorem dX9_behind_64 : decode cX9_behind 64 = .ok (.iload_n 2, 1) := by decide +kernel
set_option maxRecDepth 100000 in
theorem dX9_behind_65 : decode cX9_behind 65 = .ok (.bipush 61, 2) := by decide +kernel
set_option maxRecDepth 100000 in
theorem dX9_behind_67 : decode cX9_behind 67 = .ok (.if_icmp .ne 7, 3) := by decide +kernel
set_option maxRecDepth 100000 in
theorem dX9_behind_70 : decode cX9_behind 70 = .ok (.iconst 3, 1) := by decide +kernel
set_option maxRecDepth 100000 in
theorem dX9_behind_71 : decode cX9_behind 71 = .ok (.goto 22, 3) := by decide +kernel
set_option maxRecDepth 100000 in
theorem dX9_behind_74 : decode cX9_behind 74 = .ok (.iload_n 2, 1) := by decide +kernel
set_option maxRecDepth 100000 in
theorem dX9_behind_75 : decode cX9_behind 75 = .ok (.bipush 62, 2) := by decide +kernel
set_option maxRecDepth 100000 in
theorem dX9_behind_77 : decode cX9_behind 77 = .ok (.if_icmp .ne 15, 3) := by decide +kernel
set_option maxRecDepth 100000 in
theorem dX9_behind_80 : decode cX9_behind 80 = .ok (.aload_n 0, 1) := by decide +kernel
set_option maxRecDepth 100000 in
theorem dX9_behind_81 : decode cX9_behind 81 = .ok (.getfield 150, 3) := by decide +kernel
set_option maxRecDepth 100000 in
theorem dX9_behind_84 : decode cX9_behind 84 = .ok (.iconst 2, 1) := by decide +kernel
set_option maxRecDepth 100000 in
theorem dX9_behind_85 : decode cX9_behind 85 = .ok (.if_icmp .ge 7, 3) := by decide +kernel
set_option maxRecDepth 100000 in
theorem dX9_behind_88 : decode cX9_behind 88 = .ok (.iconst 0, 1) := by decide +kernel
set_option maxRecDepth 100000 in
theorem dX9_behind_89 : decode cX9_behind 89 = .ok (.goto 4, 3) := by decide +kernel
set_option maxRecDepth 100000 in
theorem dX9_behind_92 : decode cX9_behind 92 = .ok (.iconst (-1), 1) := by decide +kernel
set_option maxRecDepth 100000 in
theorem dX9_behind_93 : decode cX9_behind 93 = .ok (.ireturn, 1) := by decide +kernel
set_option maxRecDepth 100000 in
theorem dX9_behind_94 : decode cX9_behind 94 = .ok (.iload_n 2, 1) := by decide +kernel
set_option maxRecDepth 100000 in
theorem dX9_behind_95 : decode cX9_behind 95 = .ok (.bipush 120, 2) := by decide +kernel
set_option maxRecDepth 100000 in
theorem dX9_behind_97 : decode cX9_behind 97 = .ok (.if_icmp .ne 7, 3) := by decide +kernel
set_option maxRecDepth 100000 in
theorem dX9_behind_100 : decode cX9_behind 100 = .ok (.iconst 4, 1) := by decide +kernel
set_option maxRecDepth 100000 in
theorem dX9_behind_101 : decode cX9_behind 101 = .ok (.goto 4, 3) := by decide +kernel
set_option maxRecDepth 100000 in
theorem dX9_behind_104 : decode cX9_behind 104 = .ok (.iconst (-1), 1) := by decide +kernel
set_option maxRecDepth 100000 in
theorem dX9_behind_105 : decode cX9_behind 105 = .ok (.ireturn, 1) := by decide +kernel
set_option maxRecDepth 100000 in
theorem dX9_behind_106 : decode cX9_behind 106 = .ok (.iload_n 2, 1) := by decide +kernel
set_option maxRecDepth 100000 in
theorem dX9_behind_107 : decode cX9_behind 107 = .ok (.bipush 59, 2) := by decide +kernel
set_option maxRecDepth 100000 in
theorem dX9_behind_109 : decode cX9_behind 109 = .ok (.if_icmp .ne 8, 3) := by decide +kernel
set_option maxRecDepth 100000 in
theorem dX9_behind_112 : decode cX9_behind 112 = .ok (.bipush 7, 2) := by decide +kernel
set_option maxRecDepth 100000 in
theorem dX9_behind_114 : decode cX9_behind 114 = .ok (.goto 4, 3) := by decide +kernel
set_option maxRecDepth 100000 in
theorem dX9_behind_117 : decode cX9_behind 117 = .ok (.iconst (-1), 1) := by decide +kernel
set_option maxRecDepth 100000 in
theorem dX9_behind_118 : decode cX9_behind 118 = .ok (.ireturn, 1) := by decide +kernel
set_option maxRecDepth 100000 in
theorem dX9_behind_119 : decode cX9_behind 119 = .ok (.iload_n 2, 1) := by decide +kernel
set_option maxRecDepth 100000 in
theorem dX9_behind_120 : decode cX9_behind 120 = .ok (.bipush 59, 2) := by decide +kernel
set_option maxRecDepth 100000 in
theorem dX9_behind_122 : decode cX9_behind 122 = .ok (.if_icmp .ne 8, 3) := by decide +kernel
set_option maxRecDepth 100000 in
theorem dX9_behind_125 : decode cX9_behind 125 = .ok (.bipush 8, 2) := by decide +kernel
set_option maxRecDepth 100000 in
theorem dX9_behind_127 : decode cX9_behind 127 = .ok (.goto 4, 3) := by decide +kernel
set_option maxRecDepth 100000 in
theorem dX9_behind_130 : decode cX9_behind 130 = .ok (.iconst (-1), 1) := by decide +kernel
set_option maxRecDepth 100000 in
theorem dX9_behind_131 : decode cX9_behind 131 = .ok (.ireturn, 1) := by decide +kernel
set_option maxRecDepth 100000 in
theorem dX9_behind_132 : decode cX9_behind 132 = .ok (.iload_n 2, 1) := by decide +kernel
set_option maxRecDepth 100000 in
theorem dX9_behind_133 : decode cX9_behind 133 = .ok (.bipush 44, 2) := by decide +kernel
set_option maxRecDepth 100000 in
theorem dX9_behind_135 : decode cX9_behind 135 = .ok (.if_icmp .ne 37, 3) := by decide +kernel
set_option maxRecDepth 100000 in
theorem dX9_behind_138 : decode cX9_behind 138 = .ok (.aload_n 0, 1) := by decide +kernel
set_option maxRecDepth 100000 in
theorem dX9_behind_139 : decode cX9_behind 139 = .ok (.getfield 136, 3) := by decide +kernel
set_option maxRecDepth 100000 in
theorem dX9_behind_142 : decode cX9_behind 142 = .ok (.bipush 11, 2) := by decide +kernel
set_option maxRecDepth 100000 in
theorem dX9_behind_144 : decode cX9_behind 144 = .ok (.if_icmp .ge 28, 3) := by decide +kernel
set_option maxRecDepth 100000 in
theorem dX9_behind_147 : decode cX9_behind 147 = .ok (.aload_n 0, 1) := by decide +kernel
set_option maxRecDepth 100000 in
theorem dX9_behind_148 : decode cX9_behind 148 = .ok (.getfield 139, 3) := by decide +kernel
set_option maxRecDepth 100000 in
theorem dX9_behind_151 : decode cX9_behind 151 = .ok (.aload_n 0, 1) := by decide +kernel
set_option maxRecDepth 100000 in
theorem dX9_behind_152 : decode cX9_behind 152 = .ok (.invokevirtual 142, 3) := by decide +kernel
set_option maxRecDepth 100000 in
theorem dX9_behind_155 : decode cX9_behind 155 = .ok (.if_icmp .le 17, 3) := by decide +kernel
set_option maxRecDepth 100000 in
theorem dX9_behind_158 : decode cX9_behind 158 = .ok (.aload_n 0, 1) := by decide +kernel
set_option maxRecDepth 100000 in
theorem dX9_behind_159 : decode cX9_behind 159 = .ok (.getfield 139, 3) := by decide +kernel
set_option maxRecDepth 100000 in
theorem dX9_behind_162 : decode cX9_behind 162 = .ok (.bipush 99, 2) := by decide +kernel
set_option maxRecDepth 100000 in
theorem dX9_behind_164 : decode cX9_behind 164 = .ok (.if_icmp .ge 8, 3) := by decide +kernel
set_option maxRecDepth 100000 in
theorem dX9_behind_167 : decode cX9_behind 167 = .ok (.bipush 6, 2) := by decide +kernel
set_option maxRecDepth 100000 in
theorem dX9_behind_169 : decode cX9_behind 169 = .ok (.goto 4, 3) := by decide +kernel
set_option maxRecDepth 100000 in
theorem dX9_behind_172 : decode cX9_behind 172 = .ok (.iconst (-1), 1) := by decide +kernel
set_option maxRecDepth 100000 in
theorem dX9_behind_173 : decode cX9_behind 173 = .ok (.ireturn, 1) := by decide +kernel
set_option maxRecDepth 100000 in
theorem dX9_readPage_0 : decode cX9_readPage 0 = .ok (.aload_n 0, 1) := by decide +kernel
set_option maxRecDepth 100000 in
theorem dX9_readPage_1 : decode cX9_readPage 1 = .ok (.iconst 0, 1) := by decide +kernel
set_option maxRecDepth 100000 in
theorem dX9_readPage_2 : decode cX9_readPage 2 = .ok (.putfield 150, 3) := by decide +kernel
set_option maxRecDepth 100000 in
theorem dX9_readPage_5 : decode cX9_readPage 5 = .ok (.aload_n 0, 1) := by decide +kernel
set_option maxRecDepth 100000 in
theorem dX9_readPage_6 : decode cX9_readPage 6 = .ok (.iconst 0, 1) := by decide +kernel
set_option maxRecDepth 100000 in
theorem dX9_readPage_7 : decode cX9_readPage 7 = .ok (.putfield 136, 3) := by decide +kernel
set_option maxRecDepth 100000 in
theorem dX9_readPage_10 : decode cX9_readPage 10 = .ok (.aload_n 0, 1) := by decide +kernel
set_option maxRecDepth 100000 in
theorem dX9_readPage_11 : decode cX9_readPage 11 = .ok (.iconst (-1), 1) := by decide +kernel
set_option maxRecDepth 100000 in
theorem dX9_readPage_12 : decode cX9_readPage 12 = .ok (.putfield 139, 3) := by decide +kernel
set_option maxRecDepth 100000 in
theorem dX9_readPage_15 : decode cX9_readPage 15 = .ok (.iconst 0, 1) := by decide +kernel
set_option maxRecDepth 100000 in
theorem dX9_readPage_16 : decode cX9_readPage 16 = .ok (.istore_n 1, 1) := by decide +kernel
set_option maxRecDepth 100000 in
theorem dX9_readPage_17 : decode cX9_readPage 17 = .ok (.iconst 0, 1) := by decide +kernel
set_option maxRecDepth 100000 in
theorem dX9_readPage_18 : decode cX9_readPage 18 = .ok (.istore_n 2, 1) := by decide +kernel
set_option maxRecDepth 100000 in
theorem dX9_readPage_19 : decode cX9_readPage 19 = .ok (.iconst 1, 1) := by decide +kernel
set_option maxRecDepth 100000 in
theorem dX9_readPage_20 : decode cX9_readPage 20 = .ok (.istore_n 3, 1) := by decide +kernel
set_option maxRecDepth 100000 in
theorem dX9_readPage_21 : decode cX9_readPage 21 = .ok (.iload_n 2, 1) := by decide +kernel
set_option maxRecDepth 100000 in
theorem dX9_readPage_22 : decode cX9_readPage 22 = .ok (.aload_n 0, 1) := by decide +kernel
set_option maxRecDepth 100000 in
theorem dX9_readPage_23 : decode cX9_readPage 23 = .ok (.getfield 129, 3) := by decide +kernel
set_option maxRecDepth 100000 in
theorem dX9_readPage_26 : decode cX9_readPage 26 = .ok (.if_icmp .ge 186, 3) := by decide +kernel
set_option maxRecDepth 100000 in
theorem dX9_readPage_29 : decode cX9_readPage 29 = .ok (.iload_n 3, 1) := by decide +kernel
set_option maxRecDepth 100000 in
theorem dX9_readPage_30 : decode cX9_readPage 30 = .ok (.ifCond .eq 182, 3) := by decide +kernel
set_option maxRecDepth 100000 in
theorem dX9_readPage_33 : decode cX9_readPage 33 = .ok (.aload_n 0, 1) := by decide +kernel
set_option maxRecDepth 100000 in
theorem dX9_readPage_34 : decode cX9_readPage 34 = .ok (.getfield 71, 3) := by decide +kernel
set_option maxRecDepth 100000 in
theorem dX9_readPage_37 : decode cX9_readPage 37 = .ok (.iload_n 2, 1) := by decide +kernel
set_option maxRecDepth 100000 in
theorem dX9_readPage_38 : decode cX9_readPage 38 = .ok (.baload, 1) := by decide +kernel
set_option maxRecDepth 100000 in
theorem dX9_readPage_39 : decode cX9_readPage 39 = .ok (.istore 4, 2) := by decide +kernel
set_option maxRecDepth 100000 in
theorem dX9_readPage_41 : decode cX9_readPage 41 = .ok (.iload_n 1, 1) := by decide +kernel
set_option maxRecDepth 100000 in
theorem dX9_readPage_42 : decode cX9_readPage 42 = .ok (.bipush 6, 2) := by decide +kernel
set_option maxRecDepth 100000 in
theorem dX9_readPage_44 : decode cX9_readPage 44 = .ok (.if_icmp .le 42, 3) := by decide +kernel
set_option maxRecDepth 100000 in
theorem dX9_readPage_47 : decode cX9_readPage 47 = .ok (.iload 4, 2) := by decide +kernel
set_option maxRecDepth 100000 in
theorem dX9_readPage_49 : decode cX9_readPage 49 = .ok (.iload_n 1, 1) := by decide +kernel
set_option maxRecDepth 100000 in
theorem dX9_readPage_50 : decode cX9_readPage 50 = .ok (.bipush 7, 2) := by decide +kernel
set_option maxRecDepth 100000 in
theorem dX9_readPage_52 : decode cX9_readPage 52 = .ok (.if_icmp .ne 8, 3) := by decide +kernel
set_option maxRecDepth 100000 in
theorem dX9_readPage_55 : decode cX9_readPage 55 = .ok (.bipush 115, 2) := by decide +kernel
set_option maxRecDepth 100000 in
theorem dX9_readPage_57 : decode cX9_readPage 57 = .ok (.goto 5, 3) := by decide +kernel
set_option maxRecDepth 100000 in
theorem dX9_readPage_60 : decode cX9_readPage 60 = .ok (.bipush 109, 2) := by decide +kernel
set_option maxRecDepth 100000 in
theorem dX9_readPage_62 : decode cX9_readPage 62 = .ok (.if_icmp .ne 7, 3) := by decide +kernel
set_option maxRecDepth 100000 in
theorem dX9_readPage_65 : decode cX9_readPage 65 = .ok (.iconst 1, 1) := by decide +kernel
set_option maxRecDepth 100000 in
theorem dX9_readPage_66 : decode cX9_readPage 66 = .ok (.goto 4, 3) := by decide +kernel
set_option maxRecDepth 100000 in
theorem dX9_readPage_69 : decode cX9_readPage 69 = .ok (.iconst 0, 1) := by decide +kernel
set_option maxRecDepth 100000 in
theorem dX9_readPage_70 : decode cX9_readPage 70 = .ok (.istore_n 3, 1) := by decide +kernel
set_option maxRecDepth 100000 in
theorem dX9_readPage_71 : decode cX9_readPage 71 = .ok (.iload_n 3, 1) := by decide +kernel
set_option maxRecDepth 100000 in
theorem dX9_readPage_72 : decode cX9_readPage 72 = .ok (.ifCond .eq 9, 3) := by decide +kernel
set_option maxRecDepth 100000 in
theorem dX9_readPage_75 : decode cX9_readPage 75 = .ok (.iload_n 1, 1) := by decide +kernel
set_option maxRecDepth 100000 in
theorem dX9_readPage_76 : decode cX9_readPage 76 = .ok (.iconst 2, 1) := by decide +kernel
set_option maxRecDepth 100000 in
theorem dX9_readPage_77 : decode cX9_readPage 77 = .ok (.isub, 1) := by decide +kernel
set_option maxRecDepth 100000 in
theorem dX9_readPage_78 : decode cX9_readPage 78 = .ok (.goto 4, 3) := by decide +kernel
set_option maxRecDepth 100000 in
theorem dX9_readPage_81 : decode cX9_readPage 81 = .ok (.iload_n 1, 1) := by decide +kernel
set_option maxRecDepth 100000 in
theorem dX9_readPage_82 : decode cX9_readPage 82 = .ok (.istore_n 1, 1) := by decide +kernel
set_option maxRecDepth 100000 in
theorem dX9_readPage_83 : decode cX9_readPage 83 = .ok (.goto 114, 3) := by decide +kernel
set_option maxRecDepth 100000 in
theorem dX9_readPage_86 : decode cX9_readPage 86 = .ok (.iload 4, 2) := by decide +kernel
set_option maxRecDepth 100000 in
theorem dX9_readPage_88 : decode cX9_readPage 88 = .ok (.invokestatic 162, 3) := by decide +kernel
set_option maxRecDepth 100000 in
theorem dX9_readPage_91 : decode cX9_readPage 91 = .ok (.ifCond .eq 61, 3) := by decide +kernel
set_option maxRecDepth 100000 in
theorem dX9_readPage_94 : decode cX9_readPage 94 = .ok (.aload_n 0, 1) := by decide +kernel
set_option maxRecDepth 100000 in
theorem dX9_readPage_95 : decode cX9_readPage 95 = .ok (.iload_n 1, 1) := by decide +kernel
set_option maxRecDepth 100000 in
theorem dX9_readPage_96 : decode cX9_readPage 96 = .ok (.iload 4, 2) := by decide +kernel
set_option maxRecDepth 100000 in
theorem dX9_readPage_98 : decode cX9_readPage 98 = .ok (.bipush 48, 2) := by decide +kernel
set_option maxRecDepth 100000 in
theorem dX9_readPage_100 : decode cX9_readPage 100 = .ok (.isub, 1) := by decide +kernel
set_option maxRecDepth 100000 in
theorem dX9_readPage_101 : decode cX9_readPage 101 = .ok (.invokevirtual 166, 3) := by decide +kernel
set_option maxRecDepth 100000 in
theorem dX9_readPage_104 : decode cX9_readPage 104 = .ok (.istore_n 3, 1) := by decide +kernel
set_option maxRecDepth 100000 in
theorem dX9_readPage_105 : decode cX9_readPage 105 = .ok (.aload_n 0, 1) := by decide +kernel
set_option maxRecDepth 100000 in
theorem dX9_readPage_106 : decode cX9_readPage 106 = .ok (.iload_n 3, 1) := by decide +kernel
set_option maxRecDepth 100000 in
theorem dX9_readPage_107 : decode cX9_readPage 107 = .ok (.ifCond .ne 10, 3) := by decide +kernel
set_option maxRecDepth 100000 in
theorem dX9_readPage_110 : decode cX9_readPage 110 = .ok (.aload_n 0, 1) := by decide +kernel
set_option maxRecDepth 100000 in
theorem dX9_readPage_111 : decode cX9_readPage 111 = .ok (.getfield 139, 3) := by decide +kernel
set_option maxRecDepth 100000 in
theorem dX9_readPage_114 : decode cX9_readPage 114 = .ok (.goto 32, 3) := by decide +kernel
set_option maxRecDepth 100000 in
theorem dX9_readPage_117 : decode cX9_readPage 117 = .ok (.aload_n 0, 1) := by decide +kernel
set_option maxRecDepth 100000 in
theorem dX9_readPage_118 : decode cX9_readPage 118 = .ok (.getfield 139, 3) := by decide +kernel
set_option maxRecDepth 100000 in
theorem dX9_readPage_121 : decode cX9_readPage 121 = .ok (.iconst (-1), 1) := by decide +kernel
set_option maxRecDepth 100000 in
theorem dX9_readPage_122 : decode cX9_readPage 122 = .ok (.if_icmp .ne 11, 3) := by decide +kernel
set_option maxRecDepth 100000 in
theorem dX9_readPage_125 : decode cX9_readPage 125 = .ok (.iload 4, 2) := by decide +kernel
set_option maxRecDepth 100000 in
theorem dX9_readPage_127 : decode cX9_readPage 127 = .ok (.bipush 48, 2) := by decide +kernel
set_option maxRecDepth 100000 in
theorem dX9_readPage_129 : decode cX9_readPage 129 = .ok (.isub, 1) := by decide +kernel
set_option maxRecDepth 100000 in
theorem dX9_readPage_130 : decode cX9_readPage 130 = .ok (.goto 16, 3) := by decide +kernel
set_option maxRecDepth 100000 in
theorem dX9_readPage_133 : decode cX9_readPage 133 = .ok (.bipush 10, 2) := by decide +kernel
set_option maxRecDepth 100000 in
theorem dX9_readPage_135 : decode cX9_readPage 135 = .ok (.aload_n 0, 1) := by decide +kernel
set_option maxRecDepth 100000 in
theorem dX9_readPage_136 : decode cX9_readPage 136 = .ok (.getfield 139, 3) := by decide +kernel
set_option maxRecDepth 100000 in
theorem dX9_readPage_139 : decode cX9_readPage 139 = .ok (.imul, 1) := by decide +kernel
set_option maxRecDepth 100000 in
theorem dX9_readPage_140 : decode cX9_readPage 140 = .ok (.iload 4, 2) := by decide +kernel
set_option maxRecDepth 100000 in
theorem dX9_readPage_142 : decode cX9_readPage 142 = .ok (.iadd, 1) := by decide +kernel
set_option maxRecDepth 100000 in
theorem dX9_readPage_143 : decode cX9_readPage 143 = .ok (.bipush 48, 2) := by decide +kernel
set_option maxRecDepth 100000 in
theorem dX9_readPage_145 : decode cX9_readPage 145 = .ok (.isub, 1) := by decide +kernel
set_option maxRecDepth 100000 in
theorem dX9_readPage_146 : decode cX9_readPage 146 = .ok (.putfield 139, 3) := by decide +kernel
set_option maxRecDepth 100000 in
theorem dX9_readPage_149 : decode cX9_readPage 149 = .ok (.goto 48, 3) := by decide +kernel
set_option maxRecDepth 100000 in
theorem dX9_readPage_152 : decode cX9_readPage 152 = .ok (.aload_n 0, 1) := by decide +kernel
set_option maxRecDepth 100000 in
theorem dX9_readPage_153 : decode cX9_readPage 153 = .ok (.getfield 139, 3) := by decide +kernel
set_option maxRecDepth 100000 in
theorem dX9_readPage_156 : decode cX9_readPage 156 = .ok (.iconst (-1), 1) := by decide +kernel
set_option maxRecDepth 100000 in
theorem dX9_readPage_157 : decode cX9_readPage 157 = .ok (.if_icmp .ne 7, 3) := by decide +kernel
set_option maxRecDepth 100000 in
theorem dX9_readPage_160 : decode cX9_readPage 160 = .ok (.iconst (-1), 1) := by decide +kernel
set_option maxRecDepth 100000 in
theorem dX9_readPage_161 : decode cX9_readPage 161 = .ok (.goto 10, 3) := by decide +kernel
set_option maxRecDepth 100000 in
theorem dX9_readPage_164 : decode cX9_readPage 164 = .ok (.aload_n 0, 1) := by decide +kernel
set_option maxRecDepth 100000 in
theorem dX9_readPage_165 : decode cX9_readPage 165 = .ok (.iload_n 1, 1) := by decide +kernel
set_option maxRecDepth 100000 in
theorem dX9_readPage_166 : decode cX9_readPage 166 = .ok (.iload 4, 2) := by decide +kernel
set_option maxRecDepth 100000 in
theorem dX9_readPage_168 : decode cX9_readPage 168 = .ok (.invokevirtual 170, 3) := by decide +kernel
set_option maxRecDepth 100000 in
theorem dX9_readPage_171 : decode cX9_readPage 171 = .ok (.istore 5, 2) := by decide +kernel
set_option maxRecDepth 100000 in
theorem dX9_readPage_173 : decode cX9_readPage 173 = .ok (.iload 5, 2) := by decide +kernel
set_option maxRecDepth 100000 in
theorem dX9_readPage_175 : decode cX9_readPage 175 = .ok (.iconst (-1), 1) := by decide +kernel
set_option maxRecDepth 100000 in
theorem dX9_readPage_176 : decode cX9_readPage 176 = .ok (.if_icmp .eq 7, 3) := by decide +kernel
set_option maxRecDepth 100000 in
theorem dX9_readPage_179 : decode cX9_readPage 179 = .ok (.iconst 1, 1) := by decide +kernel
set_option maxRecDepth 100000 in
theorem dX9_readPage_180 : decode cX9_readPage 180 = .ok (.goto 4, 3) := by decide +kernel
set_option maxRecDepth 100000 in
theorem dX9_readPage_183 : decode cX9_readPage 183 = .ok (.iconst 0, 1) := by decide +kernel
set_option maxRecDepth 100000 in
theorem dX9_readPage_184 : decode cX9_readPage 184 = .ok (.istore_n 3, 1) := by decide +kernel
set_option maxRecDepth 100000 in
theorem dX9_readPage_185 : decode cX9_readPage 185 = .ok (.iload_n 3, 1) := by decide +kernel
set_option maxRecDepth 100000 in
theorem dX9_readPage_186 : decode cX9_readPage 186 = .ok (.ifCond .eq 11, 3) := by decide +kernel
set_option maxRecDepth 100000 in
theorem dX9_readPage_189 : decode cX9_readPage 189 = .ok (.aload_n 0, 1) := by decide +kernel
set_option maxRecDepth 100000 in
theorem dX9_readPage_190 : decode cX9_readPage 190 = .ok (.iload_n 1, 1) := by decide +kernel
set_option maxRecDepth 100000 in
theorem dX9_readPage_191 : decode cX9_readPage 191 = .ok (.invokevirtual 174, 3) := by decide +kernel
set_option maxRecDepth 100000 in
theorem dX9_readPage_194 : decode cX9_readPage 194 = .ok (.iload 5, 2) := by decide +kernel
set_option maxRecDepth 100000 in
theorem dX9_readPage_196 : decode cX9_readPage 196 = .ok (.istore_n 1, 1) := by decide +kernel
set_option maxRecDepth 100000 in
theorem dX9_readPage_197 : decode cX9_readPage 197 = .ok (.iload_n 2, 1) := by decide +kernel
set_option maxRecDepth 100000 in
theorem dX9_readPage_198 : decode cX9_readPage 198 = .ok (.iload_n 3, 1) := by decide +kernel
set_option maxRecDepth 100000 in
theorem dX9_readPage_199 : decode cX9_readPage 199 = .ok (.ifCond .eq 7, 3) := by decide +kernel
set_option maxRecDepth 100000 in
theorem dX9_readPage_202 : decode cX9_readPage 202 = .ok (.iconst 1, 1) := by decide +kernel
set_option maxRecDepth 100000 in
theorem dX9_readPage_203 : decode cX9_readPage 203 = .ok (.goto 4, 3) := by decide +kernel
set_option maxRecDepth 100000 in
theorem dX9_readPage_206 : decode cX9_readPage 206 = .ok (.iconst 0, 1) := by decide +kernel
set_option maxRecDepth 100000 in
theorem dX9_readPage_207 : decode cX9_readPage 207 = .ok (.iadd, 1) := by decide +kernel
set_option maxRecDepth 100000 in
theorem dX9_readPage_208 : decode cX9_readPage 208 = .ok (.istore_n 2, 1) := by decide +kernel
set_option maxRecDepth 100000 in
theorem dX9_readPage_209 : decode cX9_readPage 209 = .ok (.goto (-188), 3) := by decide +kernel
set_option maxRecDepth 100000 in
theorem dX9_readPage_212 : decode cX9_readPage 212 = .ok (.aload_n 0, 1) := by decide +kernel
set_option maxRecDepth 100000 in
theorem dX9_readPage_213 : decode cX9_readPage 213 = .ok (.iload_n 2, 1) := by decide +kernel
set_option maxRecDepth 100000 in
theorem dX9_readPage_214 : decode cX9_readPage 214 = .ok (.putfield 178, 3) := by decide +kernel
set_option maxRecDepth 100000 in
theorem dX9_readPage_217 : decode cX9_readPage 217 = .ok (.aload_n 0, 1) := by decide +kernel
set_option maxRecDepth 100000 in
theorem dX9_readPage_218 : decode cX9_readPage 218 = .ok (.iload_n 2, 1) := by decide +kernel
set_option maxRecDepth 100000 in
theorem dX9_readPage_219 : decode cX9_readPage 219 = .ok (.aload_n 0, 1) := by decide +kernel
set_option maxRecDepth 100000 in
theorem dX9_readPage_220 : decode cX9_readPage 220 = .ok (.getfield 129, 3) := by decide +kernel
set_option maxRecDepth 100000 in
theorem dX9_readPage_223 : decode cX9_readPage 223 = .ok (.if_icmp .ne 24, 3) := by decide +kernel
set_option maxRecDepth 100000 in
theorem dX9_readPage_226 : decode cX9_readPage 226 = .ok (.iload_n 1, 1) := by decide +kernel
set_option maxRecDepth 100000 in
theorem dX9_readPage_227 : decode cX9_readPage 227 = .ok (.bipush 6, 2) := by decide +kernel
set_option maxRecDepth 100000 in
theorem dX9_readPage_229 : decode cX9_readPage 229 = .ok (.if_icmp .ne 18, 3) := by decide +kernel
set_option maxRecDepth 100000 in
theorem dX9_readPage_232 : decode cX9_readPage 232 = .ok (.aload_n 0, 1) := by decide +kernel
set_option maxRecDepth 100000 in
theorem dX9_readPage_233 : decode cX9_readPage 233 = .ok (.getfield 139, 3) := by decide +kernel
set_option maxRecDepth 100000 in
theorem dX9_readPage_236 : decode cX9_readPage 236 = .ok (.aload_n 0, 1) := by decide +kernel
set_option maxRecDepth 100000 in
theorem dX9_readPage_237 : decode cX9_readPage 237 = .ok (.invokevirtual 142, 3) := by decide +kernel
set_option maxRecDepth 100000 in
theorem dX9_readPage_240 : decode cX9_readPage 240 = .ok (.if_icmp .le 7, 3) := by decide +kernel
set_option maxRecDepth 100000 in
theorem dX9_readPage_243 : decode cX9_readPage 243 = .ok (.iconst 1, 1) := by decide +kernel
set_option maxRecDepth 100000 in
theorem dX9_readPage_244 : decode cX9_readPage 244 = .ok (.goto 4, 3) := by decide +kernel
set_option maxRecDepth 100000 in
theorem dX9_readPage_247 : decode cX9_readPage 247 = .ok (.iconst 0, 1) := by decide +kernel
set_option maxRecDepth 100000 in
theorem dX9_readPage_248 : decode cX9_readPage 248 = .ok (.putfield 181, 3) := by decide +kernel
set_option maxRecDepth 100000 in
theorem dX9_readPage_251 : decode cX9_readPage 251 = .ok (.return_, 1) := by decide +kernel
set_option maxRecDepth 100000 in
theorem dX9_fault_0 : decode cX9_fault 0 = .ok (.aload_n 0, 1) := by decide +kernel
set_option maxRecDepth 100000 in
theorem dX9_fault_1 : decode cX9_fault 1 = .ok (.invokevirtual 185, 3) := by decide +kernel
set_option maxRecDepth 100000 in
theorem dX9_fault_4 : decode cX9_fault 4 = .ok (.aload_n 0, 1) := by decide +kernel
set_option maxRecDepth 100000 in
theorem dX9_fault_5 : decode cX9_fault 5 = .ok (.getfield 178, 3) := by decide +kernel
set_option maxRecDepth 100000 in
theorem dX9_fault_8 : decode cX9_fault 8 = .ok (.ireturn, 1) := by decide +kernel
set_option maxRecDepth 100000 in
theorem dX9_clock_0 : decode cX9_clock 0 = .ok (.aload_n 0, 1) := by decide +kernel
set_option maxRecDepth 100000 in
theorem dX9_clock_1 : decode cX9_clock 1 = .ok (.invokevirtual 185, 3) := by decide +kernel
set_option maxRecDepth 100000 in
theorem dX9_clock_4 : decode cX9_clock 4 = .ok (.aload_n 0, 1) := by decide +kernel
set_option maxRecDepth 100000 in
theorem dX9_clock_5 : decode cX9_clock 5 = .ok (.getfield 181, 3) := by decide +kernel
set_option maxRecDepth 100000 in
theorem dX9_clock_8 : decode cX9_clock 8 = .ok (.ifCond .ne 6, 3) := by decide +kernel
set_option maxRecDepth 100000 in
theorem dX9_clock_11 : decode cX9_clock 11 = .ok (.bipush (-103), 2) := by decide +kernel
set_option maxRecDepth 100000 in
theorem dX9_clock_13 : decode cX9_clock 13 = .ok (.ireturn, 1) := by decide +kernel
set_option maxRecDepth 100000 in
theorem dX9_clock_14 : decode cX9_clock 14 = .ok (.aload_n 0, 1) := by decide +kernel
set_option maxRecDepth 100000 in
theorem dX9_clock_15 : decode cX9_clock 15 = .ok (.getfield 188, 3) := by decide +kernel
set_option maxRecDepth 100000 in
theorem dX9_clock_18 : decode cX9_clock 18 = .ok (.iconst 4, 1) := by decide +kernel
set_option maxRecDepth 100000 in
theorem dX9_clock_19 : decode cX9_clock 19 = .ok (.if_icmp .ne 6, 3) := by decide +kernel
set_option maxRecDepth 100000 in
theorem dX9_clock_22 : decode cX9_clock 22 = .ok (.bipush (-104), 2) := by decide +kernel
set_option maxRecDepth 100000 in
theorem dX9_clock_24 : decode cX9_clock 24 = .ok (.ireturn, 1) := by decide +kernel
set_option maxRecDepth 100000 in
theorem dX9_clock_25 : decode cX9_clock 25 = .ok (.aload_n 0, 1) := by decide +kernel
set_option maxRecDepth 100000 in
theorem dX9_clock_26 : decode cX9_clock 26 = .ok (.bipush 6, 2) := by decide +kernel
set_option maxRecDepth 100000 in
theorem dX9_clock_28 : decode cX9_clock 28 = .ok (.invokevirtual 174, 3) := by decide +kernel
set_option maxRecDepth 100000 in
theorem dX9_clock_31 : decode cX9_clock 31 = .ok (.aload_n 0, 1) := by decide +kernel
set_option maxRecDepth 100000 in
theorem dX9_clock_32 : decode cX9_clock 32 = .ok (.getfield 7, 3) := by decide +kernel
set_option maxRecDepth 100000 in
theorem dX9_clock_35 : decode cX9_clock 35 = .ok (.aload_n 0, 1) := by decide +kernel
set_option maxRecDepth 100000 in
theorem dX9_clock_36 : decode cX9_clock 36 = .ok (.getfield 188, 3) := by decide +kernel
set_option maxRecDepth 100000 in
theorem dX9_clock_39 : decode cX9_clock 39 = .ok (.aload_n 0, 1) := by decide +kernel
set_option maxRecDepth 100000 in
theorem dX9_clock_40 : decode cX9_clock 40 = .ok (.getfield 150, 3) := by decide +kernel
set_option maxRecDepth 100000 in
theorem dX9_clock_43 : decode cX9_clock 43 = .ok (.iastore, 1) := by decide +kernel
set_option maxRecDepth 100000 in
theorem dX9_clock_44 : decode cX9_clock 44 = .ok (.iconst 0, 1) := by decide +kernel
set_option maxRecDepth 100000 in
theorem dX9_clock_45 : decode cX9_clock 45 = .ok (.istore_n 1, 1) := by decide +kernel
set_option maxRecDepth 100000 in
theorem dX9_clock_46 : decode cX9_clock 46 = .ok (.iload_n 1, 1) := by decide +kernel
set_option maxRecDepth 100000 in
theorem dX9_clock_47 : decode cX9_clock 47 = .ok (.aload_n 0, 1) := by decide +kernel
set_option maxRecDepth 100000 in
theorem dX9_clock_48 : decode cX9_clock 48 = .ok (.getfield 150, 3) := by decide +kernel
set_option maxRecDepth 100000 in
theorem dX9_clock_51 : decode cX9_clock 51 = .ok (.if_icmp .ge 66, 3) := by decide +kernel
set_option maxRecDepth 100000 in
theorem dX9_clock_54 : decode cX9_clock 54 = .ok (.aload_n 0, 1) := by decide +kernel
set_option maxRecDepth 100000 in
theorem dX9_clock_55 : decode cX9_clock 55 = .ok (.getfield 13, 3) := by decide +kernel
set_option maxRecDepth 100000 in
theorem dX9_clock_58 : decode cX9_clock 58 = .ok (.iconst 3, 1) := by decide +kernel
set_option maxRecDepth 100000 in
theorem dX9_clock_59 : decode cX9_clock 59 = .ok (.aload_n 0, 1) := by decide +kernel
set_option maxRecDepth 100000 in
theorem dX9_clock_60 : decode cX9_clock 60 = .ok (.getfield 188, 3) := by decide +kernel
set_option maxRecDepth 100000 in
theorem dX9_clock_63 : decode cX9_clock 63 = .ok (.imul, 1) := by decide +kernel
set_option maxRecDepth 100000 in
theorem dX9_clock_64 : decode cX9_clock 64 = .ok (.iload_n 1, 1) := by decide +kernel
set_option maxRecDepth 100000 in
theorem dX9_clock_65 : decode cX9_clock 65 = .ok (.iadd, 1) := by decide +kernel
set_option maxRecDepth 100000 in
theorem dX9_clock_66 : decode cX9_clock 66 = .ok (.aload_n 0, 1) := by decide +kernel
set_option maxRecDepth 100000 in
theorem dX9_clock_67 : decode cX9_clock 67 = .ok (.getfield 84, 3) := by decide +kernel
set_option maxRecDepth 100000 in
theorem dX9_clock_70 : decode cX9_clock 70 = .ok (.iload_n 1, 1) := by decide +kernel
set_option maxRecDepth 100000 in
theorem dX9_clock_71 : decode cX9_clock 71 = .ok (.iaload, 1) := by decide +kernel
set_option maxRecDepth 100000 in
theorem dX9_clock_72 : decode cX9_clock 72 = .ok (.iastore, 1) := by decide +kernel
set_option maxRecDepth 100000 in
theorem dX9_clock_73 : decode cX9_clock 73 = .ok (.aload_n 0, 1) := by decide +kernel
set_option maxRecDepth 100000 in
theorem dX9_clock_74 : decode cX9_clock 74 = .ok (.getfield 16, 3) := by decide +kernel
set_option maxRecDepth 100000 in
theorem dX9_clock_77 : decode cX9_clock 77 = .ok (.iconst 3, 1) := by decide +kernel
set_option maxRecDepth 100000 in
theorem dX9_clock_78 : decode cX9_clock 78 = .ok (.aload_n 0, 1) := by decide +kernel
set_option maxRecDepth 100000 in
theorem dX9_clock_79 : decode cX9_clock 79 = .ok (.getfield 188, 3) := by decide +kernel
set_option maxRecDepth 100000 in
theorem dX9_clock_82 : decode cX9_clock 82 = .ok (.imul, 1) := by decide +kernel
set_option maxRecDepth 100000 in
theorem dX9_clock_83 : decode cX9_clock 83 = .ok (.iload_n 1, 1) := by decide +kernel
set_option maxRecDepth 100000 in
theorem dX9_clock_84 : decode cX9_clock 84 = .ok (.iadd, 1) := by decide +kernel
set_option maxRecDepth 100000 in
theorem dX9_clock_85 : decode cX9_clock 85 = .ok (.aload_n 0, 1) := by decide +kernel
set_option maxRecDepth 100000 in
theorem dX9_clock_86 : decode cX9_clock 86 = .ok (.getfield 87, 3) := by decide +kernel
set_option maxRecDepth 100000 in
theorem dX9_clock_89 : decode cX9_clock 89 = .ok (.iload_n 1, 1) := by decide +kernel
set_option maxRecDepth 100000 in
theorem dX9_clock_90 : decode cX9_clock 90 = .ok (.iaload, 1) := by decide +kernel
set_option maxRecDepth 100000 in
theorem dX9_clock_91 : decode cX9_clock 91 = .ok (.iastore, 1) := by decide +kernel
set_option maxRecDepth 100000 in
theorem dX9_clock_92 : decode cX9_clock 92 = .ok (.aload_n 0, 1) := by decide +kernel
set_option maxRecDepth 100000 in
theorem dX9_clock_93 : decode cX9_clock 93 = .ok (.getfield 19, 3) := by decide +kernel
set_option maxRecDepth 100000 in
theorem dX9_clock_96 : decode cX9_clock 96 = .ok (.iconst 3, 1) := by decide +kernel
set_option maxRecDepth 100000 in
theorem dX9_clock_97 : decode cX9_clock 97 = .ok (.aload_n 0, 1) := by decide +kernel
set_option maxRecDepth 100000 in
theorem dX9_clock_98 : decode cX9_clock 98 = .ok (.getfield 188, 3) := by decide +kernel
set_option maxRecDepth 100000 in
theorem dX9_clock_101 : decode cX9_clock 101 = .ok (.imul, 1) := by decide +kernel
set_option maxRecDepth 100000 in
theorem dX9_clock_102 : decode cX9_clock 102 = .ok (.iload_n 1, 1) := by decide +kernel
set_option maxRecDepth 100000 in
theorem dX9_clock_103 : decode cX9_clock 103 = .ok (.iadd, 1) := by decide +kernel
set_option maxRecDepth 100000 in
theorem dX9_clock_104 : decode cX9_clock 104 = .ok (.aload_n 0, 1) := by decide +kernel
set_option maxRecDepth 100000 in
theorem dX9_clock_105 : decode cX9_clock 105 = .ok (.getfield 90, 3) := by decide +kernel
set_option maxRecDepth 100000 in
theorem dX9_clock_108 : decode cX9_clock 108 = .ok (.iload_n 1, 1) := by decide +kernel
set_option maxRecDepth 100000 in
theorem dX9_clock_109 : decode cX9_clock 109 = .ok (.iaload, 1) := by decide +kernel
set_option maxRecDepth 100000 in
theorem dX9_clock_110 : decode cX9_clock 110 = .ok (.iastore, 1) := by decide +kernel
set_option maxRecDepth 100000 in
theorem dX9_clock_111 : decode cX9_clock 111 = .ok (.iinc 1 1, 3) := by decide +kernel
set_option maxRecDepth 100000 in
theorem dX9_clock_114 : decode cX9_clock 114 = .ok (.goto (-68), 3) := by decide +kernel
set_option maxRecDepth 100000 in
theorem dX9_clock_117 : decode cX9_clock 117 = .ok (.aload_n 0, 1) := by decide +kernel
set_option maxRecDepth 100000 in
theorem dX9_clock_118 : decode cX9_clock 118 = .ok (.getfield 22, 3) := by decide +kernel
set_option maxRecDepth 100000 in
theorem dX9_clock_121 : decode cX9_clock 121 = .ok (.aload_n 0, 1) := by decide +kernel
set_option maxRecDepth 100000 in
theorem dX9_clock_122 : decode cX9_clock 122 = .ok (.getfield 188, 3) := by decide +kernel
set_option maxRecDepth 100000 in
theorem dX9_clock_125 : decode cX9_clock 125 = .ok (.aload_n 0, 1) := by decide +kernel
set_option maxRecDepth 100000 in
theorem dX9_clock_126 : decode cX9_clock 126 = .ok (.getfield 153, 3) := by decide +kernel
set_option maxRecDepth 100000 in
theorem dX9_clock_129 : decode cX9_clock 129 = .ok (.iastore, 1) := by decide +kernel
set_option maxRecDepth 100000 in
theorem dX9_clock_130 : decode cX9_clock 130 = .ok (.aload_n 0, 1) := by decide +kernel
set_option maxRecDepth 100000 in
theorem dX9_clock_131 : decode cX9_clock 131 = .ok (.getfield 25, 3) := by decide +kernel
set_option maxRecDepth 100000 in
theorem dX9_clock_134 : decode cX9_clock 134 = .ok (.aload_n 0, 1) := by decide +kernel
set_option maxRecDepth 100000 in
theorem dX9_clock_135 : decode cX9_clock 135 = .ok (.getfield 188, 3) := by decide +kernel
set_option maxRecDepth 100000 in
theorem dX9_clock_138 : decode cX9_clock 138 = .ok (.aload_n 0, 1) := by decide +kernel
set_option maxRecDepth 100000 in
theorem dX9_clock_139 : decode cX9_clock 139 = .ok (.getfield 156, 3) := by decide +kernel
set_option maxRecDepth 100000 in
theorem dX9_clock_142 : decode cX9_clock 142 = .ok (.iastore, 1) := by decide +kernel
set_option maxRecDepth 100000 in
theorem dX9_clock_143 : decode cX9_clock 143 = .ok (.aload_n 0, 1) := by decide +kernel
set_option maxRecDepth 100000 in
theorem dX9_clock_144 : decode cX9_clock 144 = .ok (.getfield 28, 3) := by decide +kernel
set_option maxRecDepth 100000 in
theorem dX9_clock_147 : decode cX9_clock 147 = .ok (.aload_n 0, 1) := by decide +kernel
set_option maxRecDepth 100000 in
theorem dX9_clock_148 : decode cX9_clock 148 = .ok (.getfield 188, 3) := by decide +kernel
set_option maxRecDepth 100000 in
theorem dX9_clock_151 : decode cX9_clock 151 = .ok (.aload_n 0, 1) := by decide +kernel
set_option maxRecDepth 100000 in
theorem dX9_clock_152 : decode cX9_clock 152 = .ok (.getfield 159, 3) := by decide +kernel
set_option maxRecDepth 100000 in
theorem dX9_clock_155 : decode cX9_clock 155 = .ok (.iastore, 1) := by decide +kernel
set_option maxRecDepth 100000 in
theorem dX9_clock_156 : decode cX9_clock 156 = .ok (.aload_n 0, 1) := by decide +kernel
set_option maxRecDepth 100000 in
theorem dX9_clock_157 : decode cX9_clock 157 = .ok (.getfield 31, 3) := by decide +kernel
set_option maxRecDepth 100000 in
theorem dX9_clock_160 : decode cX9_clock 160 = .ok (.aload_n 0, 1) := by decide +kernel
set_option maxRecDepth 100000 in
theorem dX9_clock_161 : decode cX9_clock 161 = .ok (.getfield 188, 3) := by decide +kernel
set_option maxRecDepth 100000 in
theorem dX9_clock_164 : decode cX9_clock 164 = .ok (.aload_n 0, 1) := by decide +kernel
set_option maxRecDepth 100000 in
theorem dX9_clock_165 : decode cX9_clock 165 = .ok (.getfield 136, 3) := by decide +kernel
set_option maxRecDepth 100000 in
theorem dX9_clock_168 : decode cX9_clock 168 = .ok (.iastore, 1) := by decide +kernel
set_option maxRecDepth 100000 in
theorem dX9_clock_169 : decode cX9_clock 169 = .ok (.iconst 0, 1) := by decide +kernel
set_option maxRecDepth 100000 in
theorem dX9_clock_170 : decode cX9_clock 170 = .ok (.istore_n 1, 1) := by decide +kernel
set_option maxRecDepth 100000 in
theorem dX9_clock_171 : decode cX9_clock 171 = .ok (.iload_n 1, 1) := by decide +kernel
set_option maxRecDepth 100000 in
theorem dX9_clock_172 : decode cX9_clock 172 = .ok (.aload_n 0, 1) := by decide +kernel
set_option maxRecDepth 100000 in
theorem dX9_clock_173 : decode cX9_clock 173 = .ok (.getfield 136, 3) := by decide +kernel
set_option maxRecDepth 100000 in
theorem dX9_clock_176 : decode cX9_clock 176 = .ok (.if_icmp .ge 29, 3) := by decide +kernel
set_option maxRecDepth 100000 in
theorem dX9_clock_179 : decode cX9_clock 179 = .ok (.aload_n 0, 1) := by decide +kernel
set_option maxRecDepth 100000 in
theorem dX9_clock_180 : decode cX9_clock 180 = .ok (.getfield 34, 3) := by decide +kernel
set_option maxRecDepth 100000 in
theorem dX9_clock_183 : decode cX9_clock 183 = .ok (.bipush 12, 2) := by decide +kernel
set_option maxRecDepth 100000 in
theorem dX9_clock_185 : decode cX9_clock 185 = .ok (.aload_n 0, 1) := by decide +kernel
set_option maxRecDepth 100000 in
theorem dX9_clock_186 : decode cX9_clock 186 = .ok (.getfield 188, 3) := by decide +kernel
set_option maxRecDepth 100000 in
theorem dX9_clock_189 : decode cX9_clock 189 = .ok (.imul, 1) := by decide +kernel
set_option maxRecDepth 100000 in
theorem dX9_clock_190 : decode cX9_clock 190 = .ok (.iload_n 1, 1) := by decide +kernel
set_option maxRecDepth 100000 in
theorem dX9_clock_191 : decode cX9_clock 191 = .ok (.iadd, 1) := by decide +kernel
set_option maxRecDepth 100000 in
theorem dX9_clock_192 : decode cX9_clock 192 = .ok (.aload_n 0, 1) := by decide +kernel
set_option maxRecDepth 100000 in
theorem dX9_clock_193 : decode cX9_clock 193 = .ok (.getfield 93, 3) := by decide +kernel
set_option maxRecDepth 100000 in
theorem dX9_clock_196 : decode cX9_clock 196 = .ok (.iload_n 1, 1) := by decide +kernel
set_option maxRecDepth 100000 in
theorem dX9_clock_197 : decode cX9_clock 197 = .ok (.iaload, 1) := by decide +kernel
set_option maxRecDepth 100000 in
theorem dX9_clock_198 : decode cX9_clock 198 = .ok (.iastore, 1) := by decide +kernel
set_option maxRecDepth 100000 in
theorem dX9_clock_199 : decode cX9_clock 199 = .ok (.iinc 1 1, 3) := by decide +kernel
set_option maxRecDepth 100000 in
theorem dX9_clock_202 : decode cX9_clock 202 = .ok (.goto (-31), 3) := by decide +kernel
set_option maxRecDepth 100000 in
theorem dX9_clock_205 : decode cX9_clock 205 = .ok (.aload_n 0, 1) := by decide +kernel
set_option maxRecDepth 100000 in
theorem dX9_clock_206 : decode cX9_clock 206 = .ok (.dup, 1) := by decide +kernel
set_option maxRecDepth 100000 in
theorem dX9_clock_207 : decode cX9_clock 207 = .ok (.getfield 188, 3) := by decide +kernel
set_option maxRecDepth 100000 in
theorem dX9_clock_210 : decode cX9_clock 210 = .ok (.iconst 1, 1) := by decide +kernel
set_option maxRecDepth 100000 in
theorem dX9_clock_211 : decode cX9_clock 211 = .ok (.iadd, 1) := by decide +kernel
set_option maxRecDepth 100000 in
theorem dX9_clock_212 : decode cX9_clock 212 = .ok (.putfield 188, 3) := by decide +kernel
set_option maxRecDepth 100000 in
theorem dX9_clock_215 : decode cX9_clock 215 = .ok (.aload_n 0, 1) := by decide +kernel
set_option maxRecDepth 100000 in
theorem dX9_clock_216 : decode cX9_clock 216 = .ok (.iconst 0, 1) := by decide +kernel
set_option maxRecDepth 100000 in
theorem dX9_clock_217 : decode cX9_clock 217 = .ok (.putfield 129, 3) := by decide +kernel
set_option maxRecDepth 100000 in
theorem dX9_clock_220 : decode cX9_clock 220 = .ok (.aload_n 0, 1) := by decide +kernel
set_option maxRecDepth 100000 in
theorem dX9_clock_221 : decode cX9_clock 221 = .ok (.getfield 188, 3) := by decide +kernel
set_option maxRecDepth 100000 in
theorem dX9_clock_224 : decode cX9_clock 224 = .ok (.iconst 1, 1) := by decide +kernel
set_option maxRecDepth 100000 in
theorem dX9_clock_225 : decode cX9_clock 225 = .ok (.isub, 1) := by decide +kernel
set_option maxRecDepth 100000 in
theorem dX9_clock_226 : decode cX9_clock 226 = .ok (.ireturn, 1) := by decide +kernel
set_option maxRecDepth 100000 in
theorem dX9_isClock_0 : decode cX9_isClock 0 = .ok (.iload_n 1, 1) := by decide +kernel
set_option maxRecDepth 100000 in
theorem dX9_isClock_1 : decode cX9_isClock 1 = .ok (.iconst 0, 1) := by decide +kernel
set_option maxRecDepth 100000 in
theorem dX9_isClock_2 : decode cX9_isClock 2 = .ok (.aload_n 0, 1) := by decide +kernel
set_option maxRecDepth 100000 in
theorem dX9_isClock_3 : decode cX9_isClock 3 = .ok (.getfield 188, 3) := by decide +kernel
set_option maxRecDepth 100000 in
theorem dX9_isClock_6 : decode cX9_isClock 6 = .ok (.iconst 1, 1) := by decide +kernel
set_option maxRecDepth 100000 in
theorem dX9_isClock_7 : decode cX9_isClock 7 = .ok (.isub, 1) := by decide +kernel
set_option maxRecDepth 100000 in
theorem dX9_isClock_8 : decode cX9_isClock 8 = .ok (.invokestatic 132, 3) := by decide +kernel
set_option maxRecDepth 100000 in
theorem dX9_isClock_11 : decode cX9_isClock 11 = .ok (.ireturn, 1) := by decide +kernel
set_option maxRecDepth 100000 in
theorem dX9_isSeason_0 : decode cX9_isSeason 0 = .ok (.iload_n 0, 1) := by decide +kernel
set_option maxRecDepth 100000 in
theorem dX9_isSeason_1 : decode cX9_isSeason 1 = .ok (.iconst 0, 1) := by decide +kernel
set_option maxRecDepth 100000 in
theorem dX9_isSeason_2 : decode cX9_isSeason 2 = .ok (.iconst 3, 1) := by decide +kernel
set_option maxRecDepth 100000 in
theorem dX9_isSeason_3 : decode cX9_isSeason 3 = .ok (.invokestatic 132, 3) := by decide +kernel
set_option maxRecDepth 100000 in
theorem dX9_isSeason_6 : decode cX9_isSeason 6 = .ok (.ireturn, 1) := by decide +kernel
set_option maxRecDepth 100000 in
theorem dX9_isFault_0 : decode cX9_isFault 0 = .ok (.iload_n 1, 1) := by decide +kernel
set_option maxRecDepth 100000 in
theorem dX9_isFault_1 : decode cX9_isFault 1 = .ok (.iconst 0, 1) := by decide +kernel
set_option maxRecDepth 100000 in
theorem dX9_isFault_2 : decode cX9_isFault 2 = .ok (.aload_n 0, 1) := by decide +kernel
set_option maxRecDepth 100000 in
theorem dX9_isFault_3 : decode cX9_isFault 3 = .ok (.getfield 191, 3) := by decide +kernel
set_option maxRecDepth 100000 in
theorem dX9_isFault_6 : decode cX9_isFault 6 = .ok (.iconst 1, 1) := by decide +kernel
set_option maxRecDepth 100000 in
theorem dX9_isFault_7 : decode cX9_isFault 7 = .ok (.isub, 1) := by decide +kernel
set_option maxRecDepth 100000 in
theorem dX9_isFault_8 : decode cX9_isFault 8 = .ok (.invokestatic 132, 3) := by decide +kernel
set_option maxRecDepth 100000 in
theorem dX9_isFault_11 : decode cX9_isFault 11 = .ok (.ireturn, 1) := by decide +kernel
set_option maxRecDepth 100000 in
theorem dX9_isBall_0 : decode cX9_isBall 0 = .ok (.iload_n 2, 1) := by decide +kernel
set_option maxRecDepth 100000 in
theorem dX9_isBall_1 : decode cX9_isBall 1 = .ok (.iconst 0, 1) := by decide +kernel
set_option maxRecDepth 100000 in
theorem dX9_isBall_2 : decode cX9_isBall 2 = .ok (.aload_n 0, 1) := by decide +kernel
set_option maxRecDepth 100000 in
theorem dX9_isBall_3 : decode cX9_isBall 3 = .ok (.getfield 31, 3) := by decide +kernel
set_option maxRecDepth 100000 in
theorem dX9_isBall_6 : decode cX9_isBall 6 = .ok (.iload_n 1, 1) := by decide +kernel
set_option maxRecDepth 100000 in
theorem dX9_isBall_7 : decode cX9_isBall 7 = .ok (.iaload, 1) := by decide +kernel
set_option maxRecDepth 100000 in
theorem dX9_isBall_8 : decode cX9_isBall 8 = .ok (.iconst 1, 1) := by decide +kernel
set_option maxRecDepth 100000 in
theorem dX9_isBall_9 : decode cX9_isBall 9 = .ok (.isub, 1) := by decide +kernel
set_option maxRecDepth 100000 in
theorem dX9_isBall_10 : decode cX9_isBall 10 = .ok (.invokestatic 132, 3) := by decide +kernel
set_option maxRecDepth 100000 in
theorem dX9_isBall_13 : decode cX9_isBall 13 = .ok (.ireturn, 1) := by decide +kernel
set_option maxRecDepth 100000 in
theorem dX9_toldOf_0 : decode cX9_toldOf 0 = .ok (.iload_n 2, 1) := by decide +kernel
set_option maxRecDepth 100000 in
theorem dX9_toldOf_1 : decode cX9_toldOf 1 = .ok (.iconst 5, 1) := by decide +kernel
set_option maxRecDepth 100000 in
theorem dX9_toldOf_2 : decode cX9_toldOf 2 = .ok (.if_icmp .ge 65, 3) := by decide +kernel
set_option maxRecDepth 100000 in
theorem dX9_toldOf_5 : decode cX9_toldOf 5 = .ok (.iload_n 2, 1) := by decide +kernel
set_option maxRecDepth 100000 in
theorem dX9_toldOf_6 : decode cX9_toldOf 6 = .ok (.ifCond .ne 12, 3) := by decide +kernel
set_option maxRecDepth 100000 in
theorem dX9_toldOf_9 : decode cX9_toldOf 9 = .ok (.aload_n 0, 1) := by decide +kernel
set_option maxRecDepth 100000 in
theorem dX9_toldOf_10 : decode cX9_toldOf 10 = .ok (.getfield 7, 3) := by decide +kernel
set_option maxRecDepth 100000 in
theorem dX9_toldOf_13 : decode cX9_toldOf 13 = .ok (.iload_n 1, 1) := by decide +kernel
set_option maxRecDepth 100000 in
theorem dX9_toldOf_14 : decode cX9_toldOf 14 = .ok (.iaload, 1) := by decide +kernel
set_option maxRecDepth 100000 in
theorem dX9_toldOf_15 : decode cX9_toldOf 15 = .ok (.goto 51, 3) := by decide +kernel
set_option maxRecDepth 100000 in
theorem dX9_toldOf_18 : decode cX9_toldOf 18 = .ok (.iload_n 2, 1) := by decide +kernel
set_option maxRecDepth 100000 in
theorem dX9_toldOf_19 : decode cX9_toldOf 19 = .ok (.iconst 1, 1) := by decide +kernel
set_option maxRecDepth 100000 in
theorem dX9_toldOf_20 : decode cX9_toldOf 20 = .ok (.if_icmp .ne 12, 3) := by decide +kernel
set_option maxRecDepth 100000 in
theorem dX9_toldOf_23 : decode cX9_toldOf 23 = .ok (.aload_n 0, 1) := by decide +kernel
set_option maxRecDepth 100000 in
theorem dX9_toldOf_24 : decode cX9_toldOf 24 = .ok (.getfield 22, 3) := by decide +kernel
set_option maxRecDepth 100000 in
theorem dX9_toldOf_27 : decode cX9_toldOf 27 = .ok (.iload_n 1, 1) := by decide +kernel
set_option maxRecDepth 100000 in
theorem dX9_toldOf_28 : decode cX9_toldOf 28 = .ok (.iaload, 1) := by decide +kernel
set_option maxRecDepth 100000 in
theorem dX9_toldOf_29 : decode cX9_toldOf 29 = .ok (.goto 37, 3) := by decide +kernel
set_option maxRecDepth 100000 in
theorem dX9_toldOf_32 : decode cX9_toldOf 32 = .ok (.iload_n 2, 1) := by decide +kernel
set_option maxRecDepth 100000 in
theorem dX9_toldOf_33 : decode cX9_toldOf 33 = .ok (.iconst 2, 1) := by decide +kernel
set_option maxRecDepth 100000 in
theorem dX9_toldOf_34 : decode cX9_toldOf 34 = .ok (.if_icmp .ne 12, 3) := by decide +kernel
set_option maxRecDepth 100000 in
theorem dX9_toldOf_37 : decode cX9_toldOf 37 = .ok (.aload_n 0, 1) := by decide +kernel
set_option maxRecDepth 100000 in
theorem dX9_toldOf_38 : decode cX9_toldOf 38 = .ok (.getfield 25, 3) := by decide +kernel
set_option maxRecDepth 100000 in
theorem dX9_toldOf_41 : decode cX9_toldOf 41 = .ok (.iload_n 1, 1) := by decide +kernel
set_option maxRecDepth 100000 in
theorem dX9_toldOf_42 : decode cX9_toldOf 42 = .ok (.iaload, 1) := by decide +kernel
set_option maxRecDepth 100000 in
theorem dX9_toldOf_43 : decode cX9_toldOf 43 = .ok (.goto 23, 3) := by decide +kernel
set_option maxRecDepth 100000 in
theorem dX9_toldOf_46 : decode cX9_toldOf 46 = .ok (.iload_n 2, 1) := by decide +kernel
set_option maxRecDepth 100000 in
theorem dX9_toldOf_47 : decode cX9_toldOf 47 = .ok (.iconst 3, 1) := by decide +kernel
set_option maxRecDepth 100000 in
theorem dX9_toldOf_48 : decode cX9_toldOf 48 = .ok (.if_icmp .ne 12, 3) := by decide +kernel
set_option maxRecDepth 100000 in
theorem dX9_toldOf_51 : decode cX9_toldOf 51 = .ok (.aload_n 0, 1) := by decide +kernel
set_option maxRecDepth 100000 in
theorem dX9_toldOf_52 : decode cX9_toldOf 52 = .ok (.getfield 28, 3) := by decide +kernel
set_option maxRecDepth 100000 in
theorem dX9_toldOf_55 : decode cX9_toldOf 55 = .ok (.iload_n 1, 1) := by decide +kernel
set_option maxRecDepth 100000 in
theorem dX9_toldOf_56 : decode cX9_toldOf 56 = .ok (.iaload, 1) := by decide +kernel
set_option maxRecDepth 100000 in
theorem dX9_toldOf_57 : decode cX9_toldOf 57 = .ok (.goto 9, 3) := by decide +kernel
set_option maxRecDepth 100000 in
theorem dX9_toldOf_60 : decode cX9_toldOf 60 = .ok (.aload_n 0, 1) := by decide +kernel
set_option maxRecDepth 100000 in
theorem dX9_toldOf_61 : decode cX9_toldOf 61 = .ok (.getfield 31, 3) := by decide +kernel
set_option maxRecDepth 100000 in
theorem dX9_toldOf_64 : decode cX9_toldOf 64 = .ok (.iload_n 1, 1) := by decide +kernel
set_option maxRecDepth 100000 in
theorem dX9_toldOf_65 : decode cX9_toldOf 65 = .ok (.iaload, 1) := by decide +kernel
set_option maxRecDepth 100000 in
theorem dX9_toldOf_66 : decode cX9_toldOf 66 = .ok (.ireturn, 1) := by decide +kernel
set_option maxRecDepth 100000 in
theorem dX9_toldOf_67 : decode cX9_toldOf 67 = .ok (.iload_n 2, 1) := by decide +kernel
set_option maxRecDepth 100000 in
theorem dX9_toldOf_68 : decode cX9_toldOf 68 = .ok (.bipush 39, 2) := by decide +kernel
set_option maxRecDepth 100000 in
theorem dX9_toldOf_70 : decode cX9_toldOf 70 = .ok (.if_icmp .le 34, 3) := by decide +kernel
set_option maxRecDepth 100000 in
theorem dX9_toldOf_73 : decode cX9_toldOf 73 = .ok (.aload_n 0, 1) := by decide +kernel
set_option maxRecDepth 100000 in
theorem dX9_toldOf_74 : decode cX9_toldOf 74 = .ok (.iload_n 1, 1) := by decide +kernel
set_option maxRecDepth 100000 in
theorem dX9_toldOf_75 : decode cX9_toldOf 75 = .ok (.iload_n 2, 1) := by decide +kernel
set_option maxRecDepth 100000 in
theorem dX9_toldOf_76 : decode cX9_toldOf 76 = .ok (.bipush 40, 2) := by decide +kernel
set_option maxRecDepth 100000 in
theorem dX9_toldOf_78 : decode cX9_toldOf 78 = .ok (.isub, 1) := by decide +kernel
set_option maxRecDepth 100000 in
theorem dX9_toldOf_79 : decode cX9_toldOf 79 = .ok (.invokevirtual 194, 3) := by decide +kernel
set_option maxRecDepth 100000 in
theorem dX9_toldOf_82 : decode cX9_toldOf 82 = .ok (.ifCond .eq 20, 3) := by decide +kernel
set_option maxRecDepth 100000 in
theorem dX9_toldOf_85 : decode cX9_toldOf 85 = .ok (.aload_n 0, 1) := by decide +kernel
set_option maxRecDepth 100000 in
theorem dX9_toldOf_86 : decode cX9_toldOf 86 = .ok (.getfield 34, 3) := by decide +kernel
set_option maxRecDepth 100000 in
theorem dX9_toldOf_89 : decode cX9_toldOf 89 = .ok (.bipush 12, 2) := by decide +kernel
set_option maxRecDepth 100000 in
theorem dX9_toldOf_91 : decode cX9_toldOf 91 = .ok (.iload_n 1, 1) := by decide +kernel
set_option maxRecDepth 100000 in
theorem dX9_toldOf_92 : decode cX9_toldOf 92 = .ok (.imul, 1) := by decide +kernel
set_option maxRecDepth 100000 in
theorem dX9_toldOf_93 : decode cX9_toldOf 93 = .ok (.iload_n 2, 1) := by decide +kernel
set_option maxRecDepth 100000 in
theorem dX9_toldOf_94 : decode cX9_toldOf 94 = .ok (.iadd, 1) := by decide +kernel
set_option maxRecDepth 100000 in
theorem dX9_toldOf_95 : decode cX9_toldOf 95 = .ok (.bipush 40, 2) := by decide +kernel
set_option maxRecDepth 100000 in
theorem dX9_toldOf_97 : decode cX9_toldOf 97 = .ok (.isub, 1) := by decide +kernel
set_option maxRecDepth 100000 in
theorem dX9_toldOf_98 : decode cX9_toldOf 98 = .ok (.iaload, 1) := by decide +kernel
set_option maxRecDepth 100000 in
theorem dX9_toldOf_99 : decode cX9_toldOf 99 = .ok (.goto 4, 3) := by decide +kernel
set_option maxRecDepth 100000 in
theorem dX9_toldOf_102 : decode cX9_toldOf 102 = .ok (.iconst (-1), 1) := by decide +kernel
set_option maxRecDepth 100000 in
theorem dX9_toldOf_103 : decode cX9_toldOf 103 = .ok (.ireturn, 1) := by decide +kernel
set_option maxRecDepth 100000 in
theorem dX9_toldOf_104 : decode cX9_toldOf 104 = .ok (.iload_n 2, 1) := by decide +kernel
set_option maxRecDepth 100000 in
theorem dX9_toldOf_105 : decode cX9_toldOf 105 = .ok (.bipush 10, 2) := by decide +kernel
set_option maxRecDepth 100000 in
theorem dX9_toldOf_107 : decode cX9_toldOf 107 = .ok (.idiv, 1) := by decide +kernel
set_option maxRecDepth 100000 in
theorem dX9_toldOf_108 : decode cX9_toldOf 108 = .ok (.iconst 1, 1) := by decide +kernel
set_option maxRecDepth 100000 in
theorem dX9_toldOf_109 : decode cX9_toldOf 109 = .ok (.isub, 1) := by decide +kernel
set_option maxRecDepth 100000 in
theorem dX9_toldOf_110 : decode cX9_toldOf 110 = .ok (.istore_n 3, 1) := by decide +kernel
set_option maxRecDepth 100000 in
theorem dX9_toldOf_111 : decode cX9_toldOf 111 = .ok (.iload_n 3, 1) := by decide +kernel
set_option maxRecDepth 100000 in
theorem dX9_toldOf_112 : decode cX9_toldOf 112 = .ok (.aload_n 0, 1) := by decide +kernel
set_option maxRecDepth 100000 in
theorem dX9_toldOf_113 : decode cX9_toldOf 113 = .ok (.getfield 7, 3) := by decide +kernel
set_option maxRecDepth 100000 in
theorem dX9_toldOf_116 : decode cX9_toldOf 116 = .ok (.iload_n 1, 1) := by decide +kernel
set_option maxRecDepth 100000 in
theorem dX9_toldOf_117 : decode cX9_toldOf 117 = .ok (.iaload, 1) := by decide +kernel
set_option maxRecDepth 100000 in
theorem dX9_toldOf_118 : decode cX9_toldOf 118 = .ok (.if_icmp .lt 5, 3) := by decide +kernel
set_option maxRecDepth 100000 in
theorem dX9_toldOf_121 : decode cX9_toldOf 121 = .ok (.iconst (-1), 1) := by decide +kernel
set_option maxRecDepth 100000 in
theorem dX9_toldOf_122 : decode cX9_toldOf 122 = .ok (.ireturn, 1) := by decide +kernel
set_option maxRecDepth 100000 in
theorem dX9_toldOf_123 : decode cX9_toldOf 123 = .ok (.iload_n 2, 1) := by decide +kernel
set_option maxRecDepth 100000 in
theorem dX9_toldOf_124 : decode cX9_toldOf 124 = .ok (.bipush 10, 2) := by decide +kernel
set_option maxRecDepth 100000 in
theorem dX9_toldOf_126 : decode cX9_toldOf 126 = .ok (.irem, 1) := by decide +kernel
set_option maxRecDepth 100000 in
theorem dX9_toldOf_127 : decode cX9_toldOf 127 = .ok (.ifCond .ne 16, 3) := by decide +kernel
set_option maxRecDepth 100000 in
theorem dX9_toldOf_130 : decode cX9_toldOf 130 = .ok (.aload_n 0, 1) := by decide +kernel
set_option maxRecDepth 100000 in
theorem dX9_toldOf_131 : decode cX9_toldOf 131 = .ok (.getfield 13, 3) := by decide +kernel
set_option maxRecDepth 100000 in
theorem dX9_toldOf_134 : decode cX9_toldOf 134 = .ok (.iconst 3, 1) := by decide +kernel
set_option maxRecDepth 100000 in
theorem dX9_toldOf_135 : decode cX9_toldOf 135 = .ok (.iload_n 1, 1) := by decide +kernel
set_option maxRecDepth 100000 in
theorem dX9_toldOf_136 : decode cX9_toldOf 136 = .ok (.imul, 1) := by decide +kernel
set_option maxRecDepth 100000 in
theorem dX9_toldOf_137 : decode cX9_toldOf 137 = .ok (.iload_n 3, 1) := by decide +kernel
set_option maxRecDepth 100000 in
theorem dX9_toldOf_138 : decode cX9_toldOf 138 = .ok (.iadd, 1) := by decide +kernel
set_option maxRecDepth 100000 in
theorem dX9_toldOf_139 : decode cX9_toldOf 139 = .ok (.iaload, 1) := by decide +kernel
set_option maxRecDepth 100000 in
theorem dX9_toldOf_140 : decode cX9_toldOf 140 = .ok (.goto 34, 3) := by decide +kernel
set_option maxRecDepth 100000 in
theorem dX9_toldOf_143 : decode cX9_toldOf 143 = .ok (.iload_n 2, 1) := by decide +kernel
set_option maxRecDepth 100000 in
theorem dX9_toldOf_144 : decode cX9_toldOf 144 = .ok (.bipush 10, 2) := by decide +kernel
set_option maxRecDepth 100000 in
theorem dX9_toldOf_146 : decode cX9_toldOf 146 = .ok (.irem, 1) := by decide +kernel
set_option maxRecDepth 100000 in
theorem dX9_toldOf_147 : decode cX9_toldOf 147 = .ok (.iconst 1, 1) := by decide +kernel
set_option maxRecDepth 100000 in
theorem dX9_toldOf_148 : decode cX9_toldOf 148 = .ok (.if_icmp .ne 16, 3) := by decide +kernel
set_option maxRecDepth 100000 in
theorem dX9_toldOf_151 : decode cX9_toldOf 151 = .ok (.aload_n 0, 1) := by decide +kernel
set_option maxRecDepth 100000 in
theorem dX9_toldOf_152 : decode cX9_toldOf 152 = .ok (.getfield 16, 3) := by decide +kernel
set_option maxRecDepth 100000 in
theorem dX9_toldOf_155 : decode cX9_toldOf 155 = .ok (.iconst 3, 1) := by decide +kernel
set_option maxRecDepth 100000 in
theorem dX9_toldOf_156 : decode cX9_toldOf 156 = .ok (.iload_n 1, 1) := by decide +kernel
set_option maxRecDepth 100000 in
theorem dX9_toldOf_157 : decode cX9_toldOf 157 = .ok (.imul, 1) := by decide +kernel
set_option maxRecDepth 100000 in
theorem dX9_toldOf_158 : decode cX9_toldOf 158 = .ok (.iload_n 3, 1) := by decide +kernel
set_option maxRecDepth 100000 in
theorem dX9_toldOf_159 : decode cX9_toldOf 159 = .ok (.iadd, 1) := by decide +kernel
set_option maxRecDepth 100000 in
theorem dX9_toldOf_160 : decode cX9_toldOf 160 = .ok (.iaload, 1) := by decide +kernel
set_option maxRecDepth 100000 in
theorem dX9_toldOf_161 : decode cX9_toldOf 161 = .ok (.goto 13, 3) := by decide +kernel
set_option maxRecDepth 100000 in
theorem dX9_toldOf_164 : decode cX9_toldOf 164 = .ok (.aload_n 0, 1) := by decide +kernel
set_option maxRecDepth 100000 in
theorem dX9_toldOf_165 : decode cX9_toldOf 165 = .ok (.getfield 19, 3) := by decide +kernel
set_option maxRecDepth 100000 in
theorem dX9_toldOf_168 : decode cX9_toldOf 168 = .ok (.iconst 3, 1) := by decide +kernel
set_option maxRecDepth 100000 in
theorem dX9_toldOf_169 : decode cX9_toldOf 169 = .ok (.iload_n 1, 1) := by decide +kernel
set_option maxRecDepth 100000 in
theorem dX9_toldOf_170 : decode cX9_toldOf 170 = .ok (.imul, 1) := by decide +kernel
set_option maxRecDepth 100000 in
theorem dX9_toldOf_171 : decode cX9_toldOf 171 = .ok (.iload_n 3, 1) := by decide +kernel
set_option maxRecDepth 100000 in
theorem dX9_toldOf_172 : decode cX9_toldOf 172 = .ok (.iadd, 1) := by decide +kernel
set_option maxRecDepth 100000 in
theorem dX9_toldOf_173 : decode cX9_toldOf 173 = .ok (.iaload, 1) := by decide +kernel
set_option maxRecDepth 100000 in
theorem dX9_toldOf_174 : decode cX9_toldOf 174 = .ok (.ireturn, 1) := by decide +kernel
set_option maxRecDepth 100000 in
theorem dX9_told_0 : decode cX9_told 0 = .ok (.aload_n 0, 1) := by decide +kernel
set_option maxRecDepth 100000 in
theorem dX9_told_1 : decode cX9_told 1 = .ok (.iload_n 1, 1) := by decide +kernel
set_option maxRecDepth 100000 in
theorem dX9_told_2 : decode cX9_told 2 = .ok (.invokevirtual 197, 3) := by decide +kernel
set_option maxRecDepth 100000 in
theorem dX9_told_5 : decode cX9_told 5 = .ok (.ifCond .ne 6, 3) := by decide +kernel
set_option maxRecDepth 100000 in
theorem dX9_told_8 : decode cX9_told 8 = .ok (.bipush (-101), 2) := by decide +kernel
set_option maxRecDepth 100000 in
theorem dX9_told_10 : decode cX9_told 10 = .ok (.ireturn, 1) := by decide +kernel
set_option maxRecDepth 100000 in
theorem dX9_told_11 : decode cX9_told 11 = .ok (.iload_n 2, 1) := by decide +kernel
set_option maxRecDepth 100000 in
theorem dX9_told_12 : decode cX9_told 12 = .ok (.iconst 0, 1) := by decide +kernel
set_option maxRecDepth 100000 in
theorem dX9_told_13 : decode cX9_told 13 = .ok (.iconst 4, 1) := by decide +kernel
set_option maxRecDepth 100000 in
theorem dX9_told_14 : decode cX9_told 14 = .ok (.invokestatic 132, 3) := by decide +kernel
set_option maxRecDepth 100000 in
theorem dX9_told_17 : decode cX9_told 17 = .ok (.ifCond .ne 33, 3) := by decide +kernel
set_option maxRecDepth 100000 in
theorem dX9_told_20 : decode cX9_told 20 = .ok (.iload_n 2, 1) := by decide +kernel
set_option maxRecDepth 100000 in
theorem dX9_told_21 : decode cX9_told 21 = .ok (.bipush 10, 2) := by decide +kernel
set_option maxRecDepth 100000 in
theorem dX9_told_23 : decode cX9_told 23 = .ok (.bipush 32, 2) := by decide +kernel
set_option maxRecDepth 100000 in
theorem dX9_told_25 : decode cX9_told 25 = .ok (.invokestatic 132, 3) := by decide +kernel
set_option maxRecDepth 100000 in
theorem dX9_told_28 : decode cX9_told 28 = .ok (.ifCond .eq 11, 3) := by decide +kernel
set_option maxRecDepth 100000 in
theorem dX9_told_31 : decode cX9_told 31 = .ok (.iload_n 2, 1) := by decide +kernel
set_option maxRecDepth 100000 in
theorem dX9_told_32 : decode cX9_told 32 = .ok (.bipush 10, 2) := by decide +kernel
set_option maxRecDepth 100000 in
theorem dX9_told_34 : decode cX9_told 34 = .ok (.irem, 1) := by decide +kernel
set_option maxRecDepth 100000 in
theorem dX9_told_35 : decode cX9_told 35 = .ok (.iconst 3, 1) := by decide +kernel
set_option maxRecDepth 100000 in
theorem dX9_told_36 : decode cX9_told 36 = .ok (.if_icmp .lt 14, 3) := by decide +kernel
set_option maxRecDepth 100000 in
theorem dX9_told_39 : decode cX9_told 39 = .ok (.iload_n 2, 1) := by decide +kernel
set_option maxRecDepth 100000 in
theorem dX9_told_40 : decode cX9_told 40 = .ok (.bipush 40, 2) := by decide +kernel
set_option maxRecDepth 100000 in
theorem dX9_told_42 : decode cX9_told 42 = .ok (.bipush 51, 2) := by decide +kernel
set_option maxRecDepth 100000 in
theorem dX9_told_44 : decode cX9_told 44 = .ok (.invokestatic 132, 3) := by decide +kernel
set_option maxRecDepth 100000 in
theorem dX9_told_47 : decode cX9_told 47 = .ok (.ifCond .eq 7, 3) := by decide +kernel
set_option maxRecDepth 100000 in
theorem dX9_told_50 : decode cX9_told 50 = .ok (.iconst 1, 1) := by decide +kernel
set_option maxRecDepth 100000 in
theorem dX9_told_51 : decode cX9_told 51 = .ok (.goto 4, 3) := by decide +kernel
set_option maxRecDepth 100000 in
theorem dX9_told_54 : decode cX9_told 54 = .ok (.iconst 0, 1) := by decide +kernel
set_option maxRecDepth 100000 in
theorem dX9_told_55 : decode cX9_told 55 = .ok (.istore_n 3, 1) := by decide +kernel
set_option maxRecDepth 100000 in
theorem dX9_told_56 : decode cX9_told 56 = .ok (.iload_n 3, 1) := by decide +kernel
set_option maxRecDepth 100000 in
theorem dX9_told_57 : decode cX9_told 57 = .ok (.ifCond .eq 12, 3) := by decide +kernel
set_option maxRecDepth 100000 in
theorem dX9_told_60 : decode cX9_told 60 = .ok (.aload_n 0, 1) := by decide +kernel
set_option maxRecDepth 100000 in
theorem dX9_told_61 : decode cX9_told 61 = .ok (.iload_n 1, 1) := by decide +kernel
set_option maxRecDepth 100000 in
theorem dX9_told_62 : decode cX9_told 62 = .ok (.iload_n 2, 1) := by decide +kernel
set_option maxRecDepth 100000 in
theorem dX9_told_63 : decode cX9_told 63 = .ok (.invokevirtual 200, 3) := by decide +kernel
set_option maxRecDepth 100000 in
theorem dX9_told_66 : decode cX9_told 66 = .ok (.goto 5, 3) := by decide +kernel
set_option maxRecDepth 100000 in
theorem dX9_told_69 : decode cX9_told 69 = .ok (.bipush (-102), 2) := by decide +kernel
set_option maxRecDepth 100000 in
theorem dX9_told_71 : decode cX9_told 71 = .ok (.ireturn, 1) := by decide +kernel
set_option maxRecDepth 100000 in
theorem dX9_season_0 : decode cX9_season 0 = .ok (.iload_n 1, 1) := by decide +kernel
set_option maxRecDepth 100000 in
theorem dX9_season_1 : decode cX9_season 1 = .ok (.invokestatic 203, 3) := by decide +kernel
set_option maxRecDepth 100000 in
theorem dX9_season_4 : decode cX9_season 4 = .ok (.ifCond .ne 6, 3) := by decide +kernel
set_option maxRecDepth 100000 in
theorem dX9_season_7 : decode cX9_season 7 = .ok (.bipush (-101), 2) := by decide +kernel
set_option maxRecDepth 100000 in
theorem dX9_season_9 : decode cX9_season 9 = .ok (.ireturn, 1) := by decide +kernel
set_option maxRecDepth 100000 in
theorem dX9_season_10 : decode cX9_season 10 = .ok (.iload_n 2, 1) := by decide +kernel
set_option maxRecDepth 100000 in
theorem dX9_season_11 : decode cX9_season 11 = .ok (.iconst 0, 1) := by decide +kernel
set_option maxRecDepth 100000 in
theorem dX9_season_12 : decode cX9_season 12 = .ok (.iconst 1, 1) := by decide +kernel
set_option maxRecDepth 100000 in
theorem dX9_season_13 : decode cX9_season 13 = .ok (.invokestatic 132, 3) := by decide +kernel
set_option maxRecDepth 100000 in
theorem dX9_season_16 : decode cX9_season 16 = .ok (.ifCond .eq 33, 3) := by decide +kernel
set_option maxRecDepth 100000 in
theorem dX9_season_19 : decode cX9_season 19 = .ok (.iload_n 3, 1) := by decide +kernel
set_option maxRecDepth 100000 in
theorem dX9_season_20 : decode cX9_season 20 = .ok (.iload_n 2, 1) := by decide +kernel
set_option maxRecDepth 100000 in
theorem dX9_season_21 : decode cX9_season 21 = .ok (.ifCond .ne 8, 3) := by decide +kernel
set_option maxRecDepth 100000 in
theorem dX9_season_24 : decode cX9_season 24 = .ok (.bipush 50, 2) := by decide +kernel
set_option maxRecDepth 100000 in
theorem dX9_season_26 : decode cX9_season 26 = .ok (.goto 5, 3) := by decide +kernel
set_option maxRecDepth 100000 in
theorem dX9_season_29 : decode cX9_season 29 = .ok (.bipush 24, 2) := by decide +kernel
set_option maxRecDepth 100000 in
theorem dX9_season_31 : decode cX9_season 31 = .ok (.iload_n 2, 1) := by decide +kernel
set_option maxRecDepth 100000 in
theorem dX9_season_32 : decode cX9_season 32 = .ok (.ifCond .ne 9, 3) := by decide +kernel
set_option maxRecDepth 100000 in
theorem dX9_season_35 : decode cX9_season 35 = .ok (.sipush 150, 3) := by decide +kernel
set_option maxRecDepth 100000 in
theorem dX9_season_38 : decode cX9_season 38 = .ok (.goto 5, 3) := by decide +kernel
set_option maxRecDepth 100000 in
theorem dX9_season_41 : decode cX9_season 41 = .ok (.bipush 72, 2) := by decide +kernel
set_option maxRecDepth 100000 in
theorem dX9_season_43 : decode cX9_season 43 = .ok (.invokestatic 132, 3) := by decide +kernel
set_option maxRecDepth 100000 in
theorem dX9_season_46 : decode cX9_season 46 = .ok (.ifCond .ne 6, 3) := by decide +kernel
set_option maxRecDepth 100000 in
theorem dX9_season_49 : decode cX9_season 49 = .ok (.bipush (-102), 2) := by decide +kernel
set_option maxRecDepth 100000 in
theorem dX9_season_51 : decode cX9_season 51 = .ok (.ireturn, 1) := by decide +kernel
set_option maxRecDepth 100000 in
theorem dX9_season_52 : decode cX9_season 52 = .ok (.iload_n 2, 1) := by decide +kernel
set_option maxRecDepth 100000 in
theorem dX9_season_53 : decode cX9_season 53 = .ok (.ifCond .ne 12, 3) := by decide +kernel
set_option maxRecDepth 100000 in
theorem dX9_season_56 : decode cX9_season 56 = .ok (.aload_n 0, 1) := by decide +kernel
set_option maxRecDepth 100000 in
theorem dX9_season_57 : decode cX9_season 57 = .ok (.getfield 37, 3) := by decide +kernel
set_option maxRecDepth 100000 in
theorem dX9_season_60 : decode cX9_season 60 = .ok (.iload_n 1, 1) := by decide +kernel
set_option maxRecDepth 100000 in
theorem dX9_season_61 : decode cX9_season 61 = .ok (.iaload, 1) := by decide +kernel
set_option maxRecDepth 100000 in
theorem dX9_season_62 : decode cX9_season 62 = .ok (.goto 9, 3) := by decide +kernel
set_option maxRecDepth 100000 in
theorem dX9_season_65 : decode cX9_season 65 = .ok (.aload_n 0, 1) := by decide +kernel
set_option maxRecDepth 100000 in
theorem dX9_season_66 : decode cX9_season 66 = .ok (.getfield 40, 3) := by decide +kernel
set_option maxRecDepth 100000 in
theorem dX9_season_69 : decode cX9_season 69 = .ok (.iload_n 1, 1) := by decide +kernel
set_option maxRecDepth 100000 in
theorem dX9_season_70 : decode cX9_season 70 = .ok (.iaload, 1) := by decide +kernel
set_option maxRecDepth 100000 in
theorem dX9_season_71 : decode cX9_season 71 = .ok (.istore 4, 2) := by decide +kernel
set_option maxRecDepth 100000 in
theorem dX9_season_73 : decode cX9_season 73 = .ok (.iload_n 2, 1) := by decide +kernel
set_option maxRecDepth 100000 in
theorem dX9_season_74 : decode cX9_season 74 = .ok (.ifCond .ne 13, 3) := by decide +kernel
set_option maxRecDepth 100000 in
theorem dX9_season_77 : decode cX9_season 77 = .ok (.aload_n 0, 1) := by decide +kernel
set_option maxRecDepth 100000 in
theorem dX9_season_78 : decode cX9_season 78 = .ok (.getfield 37, 3) := by decide +kernel
set_option maxRecDepth 100000 in
theorem dX9_season_81 : decode cX9_season 81 = .ok (.iload_n 1, 1) := by decide +kernel
set_option maxRecDepth 100000 in
theorem dX9_season_82 : decode cX9_season 82 = .ok (.iload_n 3, 1) := by decide +kernel
set_option maxRecDepth 100000 in
theorem dX9_season_83 : decode cX9_season 83 = .ok (.iastore, 1) := by decide +kernel
set_option maxRecDepth 100000 in
theorem dX9_season_84 : decode cX9_season 84 = .ok (.goto 10, 3) := by decide +kernel
set_option maxRecDepth 100000 in
theorem dX9_season_87 : decode cX9_season 87 = .ok (.aload_n 0, 1) := by decide +kernel
set_option maxRecDepth 100000 in
theorem dX9_season_88 : decode cX9_season 88 = .ok (.getfield 40, 3) := by decide +kernel
set_option maxRecDepth 100000 in
theorem dX9_season_91 : decode cX9_season 91 = .ok (.iload_n 1, 1) := by decide +kernel
set_option maxRecDepth 100000 in
theorem dX9_season_92 : decode cX9_season 92 = .ok (.iload_n 3, 1) := by decide +kernel
set_option maxRecDepth 100000 in
theorem dX9_season_93 : decode cX9_season 93 = .ok (.iastore, 1) := by decide +kernel
set_option maxRecDepth 100000 in
theorem dX9_season_94 : decode cX9_season 94 = .ok (.iload 4, 2) := by decide +kernel
set_option maxRecDepth 100000 in
theorem dX9_season_96 : decode cX9_season 96 = .ok (.ireturn, 1) := by decide +kernel
set_option maxRecDepth 100000 in
theorem dX9_faulty_0 : decode cX9_faulty 0 = .ok (.iload_n 1, 1) := by decide +kernel
set_option maxRecDepth 100000 in
theorem dX9_faulty_1 : decode cX9_faulty 1 = .ok (.iconst 0, 1) := by decide +kernel
set_option maxRecDepth 100000 in
theorem dX9_faulty_2 : decode cX9_faulty 2 = .ok (.iconst 4, 1) := by decide +kernel
set_option maxRecDepth 100000 in
theorem dX9_faulty_3 : decode cX9_faulty 3 = .ok (.invokestatic 132, 3) := by decide +kernel
set_option maxRecDepth 100000 in
theorem dX9_faulty_6 : decode cX9_faulty 6 = .ok (.ifCond .eq 33, 3) := by decide +kernel
set_option maxRecDepth 100000 in
theorem dX9_faulty_9 : decode cX9_faulty 9 = .ok (.iload_n 2, 1) := by decide +kernel
set_option maxRecDepth 100000 in
theorem dX9_faulty_10 : decode cX9_faulty 10 = .ok (.iconst 0, 1) := by decide +kernel
set_option maxRecDepth 100000 in
theorem dX9_faulty_11 : decode cX9_faulty 11 = .ok (.iconst 2, 1) := by decide +kernel
set_option maxRecDepth 100000 in
theorem dX9_faulty_12 : decode cX9_faulty 12 = .ok (.invokestatic 132, 3) := by decide +kernel
set_option maxRecDepth 100000 in
theorem dX9_faulty_15 : decode cX9_faulty 15 = .ok (.ifCond .eq 24, 3) := by decide +kernel
set_option maxRecDepth 100000 in
theorem dX9_faulty_18 : decode cX9_faulty 18 = .ok (.iload_n 3, 1) := by decide +kernel
set_option maxRecDepth 100000 in
theorem dX9_faulty_19 : decode cX9_faulty 19 = .ok (.iconst 1, 1) := by decide +kernel
set_option maxRecDepth 100000 in
theorem dX9_faulty_20 : decode cX9_faulty 20 = .ok (.bipush 20, 2) := by decide +kernel
set_option maxRecDepth 100000 in
theorem dX9_faulty_22 : decode cX9_faulty 22 = .ok (.invokestatic 132, 3) := by decide +kernel
set_option maxRecDepth 100000 in
theorem dX9_faulty_25 : decode cX9_faulty 25 = .ok (.ifCond .eq 14, 3) := by decide +kernel
set_option maxRecDepth 100000 in
theorem dX9_faulty_28 : decode cX9_faulty 28 = .ok (.iload 4, 2) := by decide +kernel
set_option maxRecDepth 100000 in
theorem dX9_faulty_30 : decode cX9_faulty 30 = .ok (.iconst 0, 1) := by decide +kernel
set_option maxRecDepth 100000 in
theorem dX9_faulty_31 : decode cX9_faulty 31 = .ok (.bipush 95, 2) := by decide +kernel
set_option maxRecDepth 100000 in
theorem dX9_faulty_33 : decode cX9_faulty 33 = .ok (.invokestatic 132, 3) := by decide +kernel
set_option maxRecDepth 100000 in
theorem dX9_faulty_36 : decode cX9_faulty 36 = .ok (.ifCond .ne 6, 3) := by decide +kernel
set_option maxRecDepth 100000 in
theorem dX9_faulty_39 : decode cX9_faulty 39 = .ok (.bipush (-102), 2) := by decide +kernel
set_option maxRecDepth 100000 in
theorem dX9_faulty_41 : decode cX9_faulty 41 = .ok (.ireturn, 1) := by decide +kernel
set_option maxRecDepth 100000 in
theorem dX9_faulty_42 : decode cX9_faulty 42 = .ok (.aload_n 0, 1) := by decide +kernel
set_option maxRecDepth 100000 in
theorem dX9_faulty_43 : decode cX9_faulty 43 = .ok (.getfield 191, 3) := by decide +kernel
set_option maxRecDepth 100000 in
theorem dX9_faulty_46 : decode cX9_faulty 46 = .ok (.bipush 8, 2) := by decide +kernel
set_option maxRecDepth 100000 in
theorem dX9_faulty_48 : decode cX9_faulty 48 = .ok (.if_icmp .ne 6, 3) := by decide +kernel
set_option maxRecDepth 100000 in
theorem dX9_faulty_51 : decode cX9_faulty 51 = .ok (.bipush (-104), 2) := by decide +kernel
set_option maxRecDepth 100000 in
theorem dX9_faulty_53 : decode cX9_faulty 53 = .ok (.ireturn, 1) := by decide +kernel
set_option maxRecDepth 100000 in
theorem dX9_faulty_54 : decode cX9_faulty 54 = .ok (.aload_n 0, 1) := by decide +kernel
set_option maxRecDepth 100000 in
theorem dX9_faulty_55 : decode cX9_faulty 55 = .ok (.getfield 43, 3) := by decide +kernel
set_option maxRecDepth 100000 in
theorem dX9_faulty_58 : decode cX9_faulty 58 = .ok (.aload_n 0, 1) := by decide +kernel
set_option maxRecDepth 100000 in
theorem dX9_faulty_59 : decode cX9_faulty 59 = .ok (.getfield 191, 3) := by decide +kernel
set_option maxRecDepth 100000 in
theorem dX9_faulty_62 : decode cX9_faulty 62 = .ok (.iload_n 1, 1) := by decide +kernel
set_option maxRecDepth 100000 in
theorem dX9_faulty_63 : decode cX9_faulty 63 = .ok (.iastore, 1) := by decide +kernel
set_option maxRecDepth 100000 in
theorem dX9_faulty_64 : decode cX9_faulty 64 = .ok (.aload_n 0, 1) := by decide +kernel
set_option maxRecDepth 100000 in
theorem dX9_faulty_65 : decode cX9_faulty 65 = .ok (.getfield 46, 3) := by decide +kernel
set_option maxRecDepth 100000 in
theorem dX9_faulty_68 : decode cX9_faulty 68 = .ok (.aload_n 0, 1) := by decide +kernel
set_option maxRecDepth 100000 in
theorem dX9_faulty_69 : decode cX9_faulty 69 = .ok (.getfield 191, 3) := by decide +kernel
set_option maxRecDepth 100000 in
theorem dX9_faulty_72 : decode cX9_faulty 72 = .ok (.iload_n 2, 1) := by decide +kernel
set_option maxRecDepth 100000 in
theorem dX9_faulty_73 : decode cX9_faulty 73 = .ok (.iastore, 1) := by decide +kernel
set_option maxRecDepth 100000 in
theorem dX9_faulty_74 : decode cX9_faulty 74 = .ok (.aload_n 0, 1) := by decide +kernel
set_option maxRecDepth 100000 in
theorem dX9_faulty_75 : decode cX9_faulty 75 = .ok (.getfield 49, 3) := by decide +kernel
set_option maxRecDepth 100000 in
theorem dX9_faulty_78 : decode cX9_faulty 78 = .ok (.aload_n 0, 1) := by decide +kernel
set_option maxRecDepth 100000 in
theorem dX9_faulty_79 : decode cX9_faulty 79 = .ok (.getfield 191, 3) := by decide +kernel
set_option maxRecDepth 100000 in
theorem dX9_faulty_82 : decode cX9_faulty 82 = .ok (.iload_n 3, 1) := by decide +kernel
set_option maxRecDepth 100000 in
theorem dX9_faulty_83 : decode cX9_faulty 83 = .ok (.iastore, 1) := by decide +kernel
set_option maxRecDepth 100000 in
theorem dX9_faulty_84 : decode cX9_faulty 84 = .ok (.aload_n 0, 1) := by decide +kernel
set_option maxRecDepth 100000 in
theorem dX9_faulty_85 : decode cX9_faulty 85 = .ok (.getfield 52, 3) := by decide +kernel
set_option maxRecDepth 100000 in
theorem dX9_faulty_88 : decode cX9_faulty 88 = .ok (.aload_n 0, 1) := by decide +kernel
set_option maxRecDepth 100000 in
theorem dX9_faulty_89 : decode cX9_faulty 89 = .ok (.getfield 191, 3) := by decide +kernel
set_option maxRecDepth 100000 in
theorem dX9_faulty_92 : decode cX9_faulty 92 = .ok (.iload 4, 2) := by decide +kernel
set_option maxRecDepth 100000 in
theorem dX9_faulty_94 : decode cX9_faulty 94 = .ok (.iastore, 1) := by decide +kernel
set_option maxRecDepth 100000 in
theorem dX9_faulty_95 : decode cX9_faulty 95 = .ok (.aload_n 0, 1) := by decide +kernel
set_option maxRecDepth 100000 in
theorem dX9_faulty_96 : decode cX9_faulty 96 = .ok (.dup, 1) := by decide +kernel
set_option maxRecDepth 100000 in
theorem dX9_faulty_97 : decode cX9_faulty 97 = .ok (.getfield 191, 3) := by decide +kernel
set_option maxRecDepth 100000 in
theorem dX9_faulty_100 : decode cX9_faulty 100 = .ok (.iconst 1, 1) := by decide +kernel
set_option maxRecDepth 100000 in
theorem dX9_faulty_101 : decode cX9_faulty 101 = .ok (.iadd, 1) := by decide +kernel
set_option maxRecDepth 100000 in
theorem dX9_faulty_102 : decode cX9_faulty 102 = .ok (.putfield 191, 3) := by decide +kernel
set_option maxRecDepth 100000 in
theorem dX9_faulty_105 : decode cX9_faulty 105 = .ok (.aload_n 0, 1) := by decide +kernel
set_option maxRecDepth 100000 in
theorem dX9_faulty_106 : decode cX9_faulty 106 = .ok (.getfield 191, 3) := by decide +kernel
set_option maxRecDepth 100000 in
theorem dX9_faulty_109 : decode cX9_faulty 109 = .ok (.iconst 1, 1) := by decide +kernel
set_option maxRecDepth 100000 in
theorem dX9_faulty_110 : decode cX9_faulty 110 = .ok (.isub, 1) := by decide +kernel
set_option maxRecDepth 100000 in
theorem dX9_faulty_111 : decode cX9_faulty 111 = .ok (.ireturn, 1) := by decide +kernel
set_option maxRecDepth 100000 in
theorem dX9_as_0 : decode cX9_as 0 = .ok (.aload_n 0, 1) := by decide +kernel
set_option maxRecDepth 100000 in
theorem dX9_as_1 : decode cX9_as 1 = .ok (.iload_n 1, 1) := by decide +kernel
set_option maxRecDepth 100000 in
theorem dX9_as_2 : decode cX9_as 2 = .ok (.invokevirtual 206, 3) := by decide +kernel
set_option maxRecDepth 100000 in
theorem dX9_as_5 : decode cX9_as 5 = .ok (.ifCond .ne 6, 3) := by decide +kernel
set_option maxRecDepth 100000 in
theorem dX9_as_8 : decode cX9_as 8 = .ok (.bipush (-101), 2) := by decide +kernel
set_option maxRecDepth 100000 in
theorem dX9_as_10 : decode cX9_as 10 = .ok (.ireturn, 1) := by decide +kernel
set_option maxRecDepth 100000 in
theorem dX9_as_11 : decode cX9_as 11 = .ok (.iload_n 2, 1) := by decide +kernel
set_option maxRecDepth 100000 in
theorem dX9_as_12 : decode cX9_as 12 = .ok (.iconst 0, 1) := by decide +kernel
set_option maxRecDepth 100000 in
theorem dX9_as_13 : decode cX9_as 13 = .ok (.iconst 4, 1) := by decide +kernel
set_option maxRecDepth 100000 in
theorem dX9_as_14 : decode cX9_as 14 = .ok (.invokestatic 132, 3) := by decide +kernel
set_option maxRecDepth 100000 in
theorem dX9_as_17 : decode cX9_as 17 = .ok (.ifCond .ne 6, 3) := by decide +kernel
set_option maxRecDepth 100000 in
theorem dX9_as_20 : decode cX9_as 20 = .ok (.bipush (-102), 2) := by decide +kernel
set_option maxRecDepth 100000 in
theorem dX9_as_22 : decode cX9_as 22 = .ok (.ireturn, 1) := by decide +kernel
set_option maxRecDepth 100000 in
theorem dX9_as_23 : decode cX9_as 23 = .ok (.aload_n 0, 1) := by decide +kernel
set_option maxRecDepth 100000 in
theorem dX9_as_24 : decode cX9_as 24 = .ok (.getfield 43, 3) := by decide +kernel
set_option maxRecDepth 100000 in
theorem dX9_as_27 : decode cX9_as 27 = .ok (.iload_n 1, 1) := by decide +kernel
set_option maxRecDepth 100000 in
theorem dX9_as_28 : decode cX9_as 28 = .ok (.iaload, 1) := by decide +kernel
set_option maxRecDepth 100000 in
theorem dX9_as_29 : decode cX9_as 29 = .ok (.istore_n 3, 1) := by decide +kernel
set_option maxRecDepth 100000 in
theorem dX9_as_30 : decode cX9_as 30 = .ok (.iload_n 2, 1) := by decide +kernel
set_option maxRecDepth 100000 in
theorem dX9_as_31 : decode cX9_as 31 = .ok (.ifCond .eq 18, 3) := by decide +kernel
set_option maxRecDepth 100000 in
theorem dX9_as_34 : decode cX9_as 34 = .ok (.iload_n 3, 1) := by decide +kernel
set_option maxRecDepth 100000 in
theorem dX9_as_35 : decode cX9_as 35 = .ok (.iload_n 2, 1) := by decide +kernel
set_option maxRecDepth 100000 in
theorem dX9_as_36 : decode cX9_as 36 = .ok (.if_icmp .eq 13, 3) := by decide +kernel
set_option maxRecDepth 100000 in
theorem dX9_as_39 : decode cX9_as 39 = .ok (.iload_n 2, 1) := by decide +kernel
set_option maxRecDepth 100000 in
theorem dX9_as_40 : decode cX9_as 40 = .ok (.iconst 1, 1) := by decide +kernel
set_option maxRecDepth 100000 in
theorem dX9_as_41 : decode cX9_as 41 = .ok (.if_icmp .ne 12, 3) := by decide +kernel
set_option maxRecDepth 100000 in
theorem dX9_as_44 : decode cX9_as 44 = .ok (.iload_n 3, 1) := by decide +kernel
set_option maxRecDepth 100000 in
theorem dX9_as_45 : decode cX9_as 45 = .ok (.iconst 2, 1) := by decide +kernel
set_option maxRecDepth 100000 in
theorem dX9_as_46 : decode cX9_as 46 = .ok (.if_icmp .ne 7, 3) := by decide +kernel
set_option maxRecDepth 100000 in
theorem dX9_as_49 : decode cX9_as 49 = .ok (.iload_n 1, 1) := by decide +kernel
set_option maxRecDepth 100000 in
theorem dX9_as_50 : decode cX9_as 50 = .ok (.goto 4, 3) := by decide +kernel
set_option maxRecDepth 100000 in
theorem dX9_as_53 : decode cX9_as 53 = .ok (.iconst (-1), 1) := by decide +kernel
set_option maxRecDepth 100000 in
theorem dX9_as_54 : decode cX9_as 54 = .ok (.ireturn, 1) := by decide +kernel
set_option maxRecDepth 100000 in
theorem dX9_isWork_0 : decode cX9_isWork 0 = .ok (.iload_n 1, 1) := by decide +kernel
set_option maxRecDepth 100000 in
theorem dX9_isWork_1 : decode cX9_isWork 1 = .ok (.iconst 0, 1) := by decide +kernel
set_option maxRecDepth 100000 in
theorem dX9_isWork_2 : decode cX9_isWork 2 = .ok (.aload_n 0, 1) := by decide +kernel
set_option maxRecDepth 100000 in
theorem dX9_isWork_3 : decode cX9_isWork 3 = .ok (.getfield 209, 3) := by decide +kernel
set_option maxRecDepth 100000 in
theorem dX9_isWork_6 : decode cX9_isWork 6 = .ok (.iconst 1, 1) := by decide +kernel
set_option maxRecDepth 100000 in
theorem dX9_isWork_7 : decode cX9_isWork 7 = .ok (.isub, 1) := by decide +kernel
set_option maxRecDepth 100000 in
theorem dX9_isWork_8 : decode cX9_isWork 8 = .ok (.invokestatic 132, 3) := by decide +kernel
set_option maxRecDepth 100000 in
theorem dX9_isWork_11 : decode cX9_isWork 11 = .ok (.ireturn, 1) := by decide +kernel
set_option maxRecDepth 100000 in
theorem dX9_isNumber_0 : decode cX9_isNumber 0 = .ok (.iload_n 0, 1) := by decide +kernel
set_option maxRecDepth 100000 in
theorem dX9_isNumber_1 : decode cX9_isNumber 1 = .ok (.tableswitch 61 1 4 #[31, 39, 46, 54], 31) := by decide +kernel
set_option maxRecDepth 100000 in
theorem dX9_isNumber_32 : decode cX9_isNumber 32 = .ok (.iload_n 1, 1) := by decide +kernel
set_option maxRecDepth 100000 in
theorem dX9_isNumber_33 : decode cX9_isNumber 33 = .ok (.iconst 0, 1) := by decide +kernel
set_option maxRecDepth 100000 in
theorem dX9_isNumber_34 : decode cX9_isNumber 34 = .ok (.bipush 9, 2) := by decide +kernel
set_option maxRecDepth 100000 in
theorem dX9_isNumber_36 : decode cX9_isNumber 36 = .ok (.invokestatic 132, 3) := by decide +kernel
set_option maxRecDepth 100000 in
theorem dX9_isNumber_39 : decode cX9_isNumber 39 = .ok (.ireturn, 1) := by decide +kernel
set_option maxRecDepth 100000 in
theorem dX9_isNumber_40 : decode cX9_isNumber 40 = .ok (.iload_n 1, 1) := by decide +kernel
set_option maxRecDepth 100000 in
theorem dX9_isNumber_41 : decode cX9_isNumber 41 = .ok (.iconst 0, 1) := by decide +kernel
set_option maxRecDepth 100000 in
theorem dX9_isNumber_42 : decode cX9_isNumber 42 = .ok (.iconst 3, 1) := by decide +kernel
set_option maxRecDepth 100000 in
theorem dX9_isNumber_43 : decode cX9_isNumber 43 = .ok (.invokestatic 132, 3) := by decide +kernel
set_option maxRecDepth 100000 in
theorem dX9_isNumber_46 : decode cX9_isNumber 46 = .ok (.ireturn, 1) := by decide +kernel
set_option maxRecDepth 100000 in
theorem dX9_isNumber_47 : decode cX9_isNumber 47 = .ok (.iload_n 1, 1) := by decide +kernel
set_option maxRecDepth 100000 in
theorem dX9_isNumber_48 : decode cX9_isNumber 48 = .ok (.iconst 1, 1) := by decide +kernel
set_option maxRecDepth 100000 in
theorem dX9_isNumber_49 : decode cX9_isNumber 49 = .ok (.bipush 9, 2) := by decide +kernel
set_option maxRecDepth 100000 in
theorem dX9_isNumber_51 : decode cX9_isNumber 51 = .ok (.invokestatic 132, 3) := by decide +kernel
set_option maxRecDepth 100000 in
theorem dX9_isNumber_54 : decode cX9_isNumber 54 = .ok (.ireturn, 1) := by decide +kernel
set_option maxRecDepth 100000 in
theorem dX9_isNumber_55 : decode cX9_isNumber 55 = .ok (.iload_n 1, 1) := by decide +kernel
set_option maxRecDepth 100000 in
theorem dX9_isNumber_56 : decode cX9_isNumber 56 = .ok (.iconst 2, 1) := by decide +kernel
set_option maxRecDepth 100000 in
theorem dX9_isNumber_57 : decode cX9_isNumber 57 = .ok (.iconst 5, 1) := by decide +kernel
set_option maxRecDepth 100000 in
theorem dX9_isNumber_58 : decode cX9_isNumber 58 = .ok (.invokestatic 132, 3) := by decide +kernel
set_option maxRecDepth 100000 in
theorem dX9_isNumber_61 : decode cX9_isNumber 61 = .ok (.ireturn, 1) := by decide +kernel
set_option maxRecDepth 100000 in
theorem dX9_isNumber_62 : decode cX9_isNumber 62 = .ok (.iload_n 1, 1) := by decide +kernel
set_option maxRecDepth 100000 in
theorem dX9_isNumber_63 : decode cX9_isNumber 63 = .ok (.ifCond .ne 7, 3) := by decide +kernel
set_option maxRecDepth 100000 in
theorem dX9_isNumber_66 : decode cX9_isNumber 66 = .ok (.iconst 1, 1) := by decide +kernel
set_option maxRecDepth 100000 in
theorem dX9_isNumber_67 : decode cX9_isNumber 67 = .ok (.goto 4, 3) := by decide +kernel
set_option maxRecDepth 100000 in
theorem dX9_isNumber_70 : decode cX9_isNumber 70 = .ok (.iconst 0, 1) := by decide +kernel
set_option maxRecDepth 100000 in
theorem dX9_isNumber_71 : decode cX9_isNumber 71 = .ok (.ireturn, 1) := by decide +kernel
set_option maxRecDepth 100000 in
theorem dX9_work_0 : decode cX9_work 0 = .ok (.iload_n 1, 1) := by decide +kernel
set_option maxRecDepth 100000 in
theorem dX9_work_1 : decode cX9_work 1 = .ok (.iconst 0, 1) := by decide +kernel
set_option maxRecDepth 100000 in
theorem dX9_work_2 : decode cX9_work 2 = .ok (.iconst 4, 1) := by decide +kernel
set_option maxRecDepth 100000 in
theorem dX9_work_3 : decode cX9_work 3 = .ok (.invokestatic 132, 3) := by decide +kernel
set_option maxRecDepth 100000 in
theorem dX9_work_6 : decode cX9_work 6 = .ok (.ifCond .eq 11, 3) := by decide +kernel
set_option maxRecDepth 100000 in
theorem dX9_work_9 : decode cX9_work 9 = .ok (.iload_n 1, 1) := by decide +kernel
set_option maxRecDepth 100000 in
theorem dX9_work_10 : decode cX9_work 10 = .ok (.iload_n 2, 1) := by decide +kernel
set_option maxRecDepth 100000 in
theorem dX9_work_11 : decode cX9_work 11 = .ok (.invokestatic 212, 3) := by decide +kernel
set_option maxRecDepth 100000 in
theorem dX9_work_14 : decode cX9_work 14 = .ok (.ifCond .ne 6, 3) := by decide +kernel
set_option maxRecDepth 100000 in
theorem dX9_work_17 : decode cX9_work 17 = .ok (.bipush (-102), 2) := by decide +kernel
set_option maxRecDepth 100000 in
theorem dX9_work_19 : decode cX9_work 19 = .ok (.ireturn, 1) := by decide +kernel
set_option maxRecDepth 100000 in
theorem dX9_work_20 : decode cX9_work 20 = .ok (.iload_n 3, 1) := by decide +kernel
set_option maxRecDepth 100000 in
theorem dX9_work_21 : decode cX9_work 21 = .ok (.iconst (-1), 1) := by decide +kernel
set_option maxRecDepth 100000 in
theorem dX9_work_22 : decode cX9_work 22 = .ok (.if_icmp .eq 14, 3) := by decide +kernel
set_option maxRecDepth 100000 in
theorem dX9_work_25 : decode cX9_work 25 = .ok (.aload_n 0, 1) := by decide +kernel
set_option maxRecDepth 100000 in
theorem dX9_work_26 : decode cX9_work 26 = .ok (.iload_n 3, 1) := by decide +kernel
set_option maxRecDepth 100000 in
theorem dX9_work_27 : decode cX9_work 27 = .ok (.invokevirtual 215, 3) := by decide +kernel
set_option maxRecDepth 100000 in
theorem dX9_work_30 : decode cX9_work 30 = .ok (.ifCond .ne 6, 3) := by decide +kernel
set_option maxRecDepth 100000 in
theorem dX9_work_33 : decode cX9_work 33 = .ok (.bipush (-101), 2) := by decide +kernel
set_option maxRecDepth 100000 in
theorem dX9_work_35 : decode cX9_work 35 = .ok (.ireturn, 1) := by decide +kernel
set_option maxRecDepth 100000 in
theorem dX9_work_36 : decode cX9_work 36 = .ok (.aload_n 0, 1) := by decide +kernel
set_option maxRecDepth 100000 in
theorem dX9_work_37 : decode cX9_work 37 = .ok (.getfield 209, 3) := by decide +kernel
set_option maxRecDepth 100000 in
theorem dX9_work_40 : decode cX9_work 40 = .ok (.bipush 10, 2) := by decide +kernel
set_option maxRecDepth 100000 in
theorem dX9_work_42 : decode cX9_work 42 = .ok (.if_icmp .ne 6, 3) := by decide +kernel
set_option maxRecDepth 100000 in
theorem dX9_work_45 : decode cX9_work 45 = .ok (.bipush (-104), 2) := by decide +kernel
set_option maxRecDepth 100000 in
theorem dX9_work_47 : decode cX9_work 47 = .ok (.ireturn, 1) := by decide +kernel
set_option maxRecDepth 100000 in
theorem dX9_work_48 : decode cX9_work 48 = .ok (.aload_n 0, 1) := by decide +kernel
set_option maxRecDepth 100000 in
theorem dX9_work_49 : decode cX9_work 49 = .ok (.getfield 55, 3) := by decide +kernel
set_option maxRecDepth 100000 in
theorem dX9_work_52 : decode cX9_work 52 = .ok (.aload_n 0, 1) := by decide +kernel
set_option maxRecDepth 100000 in
theorem dX9_work_53 : decode cX9_work 53 = .ok (.getfield 209, 3) := by decide +kernel
set_option maxRecDepth 100000 in
theorem dX9_work_56 : decode cX9_work 56 = .ok (.iload_n 1, 1) := by decide +kernel
set_option maxRecDepth 100000 in
theorem dX9_work_57 : decode cX9_work 57 = .ok (.iastore, 1) := by decide +kernel
set_option maxRecDepth 100000 in
theorem dX9_work_58 : decode cX9_work 58 = .ok (.aload_n 0, 1) := by decide +kernel
set_option maxRecDepth 100000 in
theorem dX9_work_59 : decode cX9_work 59 = .ok (.getfield 58, 3) := by decide +kernel
set_option maxRecDepth 100000 in
theorem dX9_work_62 : decode cX9_work 62 = .ok (.aload_n 0, 1) := by decide +kernel
set_option maxRecDepth 100000 in
theorem dX9_work_63 : decode cX9_work 63 = .ok (.getfield 209, 3) := by decide +kernel
set_option maxRecDepth 100000 in
theorem dX9_work_66 : decode cX9_work 66 = .ok (.iload_n 2, 1) := by decide +kernel
set_option maxRecDepth 100000 in
theorem dX9_work_67 : decode cX9_work 67 = .ok (.iastore, 1) := by decide +kernel
set_option maxRecDepth 100000 in
theorem dX9_work_68 : decode cX9_work 68 = .ok (.aload_n 0, 1) := by decide +kernel
set_option maxRecDepth 100000 in
theorem dX9_work_69 : decode cX9_work 69 = .ok (.getfield 61, 3) := by decide +kernel
set_option maxRecDepth 100000 in
theorem dX9_work_72 : decode cX9_work 72 = .ok (.aload_n 0, 1) := by decide +kernel
set_option maxRecDepth 100000 in
theorem dX9_work_73 : decode cX9_work 73 = .ok (.getfield 209, 3) := by decide +kernel
set_option maxRecDepth 100000 in
theorem dX9_work_76 : decode cX9_work 76 = .ok (.iload_n 3, 1) := by decide +kernel
set_option maxRecDepth 100000 in
theorem dX9_work_77 : decode cX9_work 77 = .ok (.iastore, 1) := by decide +kernel
set_option maxRecDepth 100000 in
theorem dX9_work_78 : decode cX9_work 78 = .ok (.aload_n 0, 1) := by decide +kernel
set_option maxRecDepth 100000 in
theorem dX9_work_79 : decode cX9_work 79 = .ok (.dup, 1) := by decide +kernel
set_option maxRecDepth 100000 in
theorem dX9_work_80 : decode cX9_work 80 = .ok (.getfield 209, 3) := by decide +kernel
set_option maxRecDepth 100000 in
theorem dX9_work_83 : decode cX9_work 83 = .ok (.iconst 1, 1) := by decide +kernel
set_option maxRecDepth 100000 in
theorem dX9_work_84 : decode cX9_work 84 = .ok (.iadd, 1) := by decide +kernel
set_option maxRecDepth 100000 in
theorem dX9_work_85 : decode cX9_work 85 = .ok (.putfield 209, 3) := by decide +kernel
set_option maxRecDepth 100000 in
theorem dX9_work_88 : decode cX9_work 88 = .ok (.aload_n 0, 1) := by decide +kernel
set_option maxRecDepth 100000 in
theorem dX9_work_89 : decode cX9_work 89 = .ok (.getfield 209, 3) := by decide +kernel
set_option maxRecDepth 100000 in
theorem dX9_work_92 : decode cX9_work 92 = .ok (.iconst 1, 1) := by decide +kernel
set_option maxRecDepth 100000 in
theorem dX9_work_93 : decode cX9_work 93 = .ok (.isub, 1) := by decide +kernel
set_option maxRecDepth 100000 in
theorem dX9_work_94 : decode cX9_work 94 = .ok (.ireturn, 1) := by decide +kernel
set_option maxRecDepth 100000 in
theorem dX9_workAs_0 : decode cX9_workAs 0 = .ok (.aload_n 0, 1) := by decide +kernel
set_option maxRecDepth 100000 in
theorem dX9_workAs_1 : decode cX9_workAs 1 = .ok (.iload_n 1, 1) := by decide +kernel
set_option maxRecDepth 100000 in
theorem dX9_workAs_2 : decode cX9_workAs 2 = .ok (.invokevirtual 215, 3) := by decide +kernel
set_option maxRecDepth 100000 in
theorem dX9_workAs_5 : decode cX9_workAs 5 = .ok (.ifCond .ne 6, 3) := by decide +kernel
set_option maxRecDepth 100000 in
theorem dX9_workAs_8 : decode cX9_workAs 8 = .ok (.bipush (-101), 2) := by decide +kernel
set_option maxRecDepth 100000 in
theorem dX9_workAs_10 : decode cX9_workAs 10 = .ok (.ireturn, 1) := by decide +kernel
set_option maxRecDepth 100000 in
theorem dX9_workAs_11 : decode cX9_workAs 11 = .ok (.iload_n 2, 1) := by decide +kernel
set_option maxRecDepth 100000 in
theorem dX9_workAs_12 : decode cX9_workAs 12 = .ok (.iconst 0, 1) := by decide +kernel
set_option maxRecDepth 100000 in
theorem dX9_workAs_13 : decode cX9_workAs 13 = .ok (.iconst 4, 1) := by decide +kernel
set_option maxRecDepth 100000 in
theorem dX9_workAs_14 : decode cX9_workAs 14 = .ok (.invokestatic 132, 3) := by decide +kernel
set_option maxRecDepth 100000 in
theorem dX9_workAs_17 : decode cX9_workAs 17 = .ok (.ifCond .ne 6, 3) := by decide +kernel
set_option maxRecDepth 100000 in
theorem dX9_workAs_20 : decode cX9_workAs 20 = .ok (.bipush (-102), 2) := by decide +kernel
set_option maxRecDepth 100000 in
theorem dX9_workAs_22 : decode cX9_workAs 22 = .ok (.ireturn, 1) := by decide +kernel
set_option maxRecDepth 100000 in
theorem dX9_workAs_23 : decode cX9_workAs 23 = .ok (.aload_n 0, 1) := by decide +kernel
set_option maxRecDepth 100000 in
theorem dX9_workAs_24 : decode cX9_workAs 24 = .ok (.getfield 55, 3) := by decide +kernel
set_option maxRecDepth 100000 in
theorem dX9_workAs_27 : decode cX9_workAs 27 = .ok (.iload_n 1, 1) := by decide +kernel
set_option maxRecDepth 100000 in
theorem dX9_workAs_28 : decode cX9_workAs 28 = .ok (.iaload, 1) := by decide +kernel
set_option maxRecDepth 100000 in
theorem dX9_workAs_29 : decode cX9_workAs 29 = .ok (.istore_n 3, 1) := by decide +kernel
set_option maxRecDepth 100000 in
theorem dX9_workAs_30 : decode cX9_workAs 30 = .ok (.iload_n 2, 1) := by decide +kernel
set_option maxRecDepth 100000 in
theorem dX9_workAs_31 : decode cX9_workAs 31 = .ok (.ifCond .eq 18, 3) := by decide +kernel
set_option maxRecDepth 100000 in
theorem dX9_workAs_34 : decode cX9_workAs 34 = .ok (.iload_n 3, 1) := by decide +kernel
set_option maxRecDepth 100000 in
theorem dX9_workAs_35 : decode cX9_workAs 35 = .ok (.iload_n 2, 1) := by decide +kernel
set_option maxRecDepth 100000 in
theorem dX9_workAs_36 : decode cX9_workAs 36 = .ok (.if_icmp .eq 13, 3) := by decide +kernel
set_option maxRecDepth 100000 in
theorem dX9_workAs_39 : decode cX9_workAs 39 = .ok (.iload_n 2, 1) := by decide +kernel
set_option maxRecDepth 100000 in
theorem dX9_workAs_40 : decode cX9_workAs 40 = .ok (.iconst 3, 1) := by decide +kernel
set_option maxRecDepth 100000 in
theorem dX9_workAs_41 : decode cX9_workAs 41 = .ok (.if_icmp .ne 12, 3) := by decide +kernel
set_option maxRecDepth 100000 in
theorem dX9_workAs_44 : decode cX9_workAs 44 = .ok (.iload_n 3, 1) := by decide +kernel
set_option maxRecDepth 100000 in
theorem dX9_workAs_45 : decode cX9_workAs 45 = .ok (.iconst 4, 1) := by decide +kernel
set_option maxRecDepth 100000 in
theorem dX9_workAs_46 : decode cX9_workAs 46 = .ok (.if_icmp .ne 7, 3) := by decide +kernel
set_option maxRecDepth 100000 in
theorem dX9_workAs_49 : decode cX9_workAs 49 = .ok (.iload_n 1, 1) := by decide +kernel
set_option maxRecDepth 100000 in
theorem dX9_workAs_50 : decode cX9_workAs 50 = .ok (.goto 4, 3) := by decide +kernel
set_option maxRecDepth 100000 in
theorem dX9_workAs_53 : decode cX9_workAs 53 = .ok (.iconst (-1), 1) := by decide +kernel
set_option maxRecDepth 100000 in
theorem dX9_workAs_54 : decode cX9_workAs 54 = .ok (.ireturn, 1) := by decide +kernel
set_option maxRecDepth 100000 in
theorem dX9_head_0 : decode cX9_head 0 = .ok (.iload_n 1, 1) := by decide +kernel
set_option maxRecDepth 100000 in
theorem dX9_head_1 : decode cX9_head 1 = .ok (.iconst (-1), 1) := by decide +kernel
set_option maxRecDepth 100000 in
theorem dX9_head_2 : decode cX9_head 2 = .ok (.if_icmp .eq 14, 3) := by decide +kernel
set_option maxRecDepth 100000 in
theorem dX9_head_5 : decode cX9_head 5 = .ok (.aload_n 0, 1) := by decide +kernel
set_option maxRecDepth 100000 in
theorem dX9_head_6 : decode cX9_head 6 = .ok (.iload_n 1, 1) := by decide +kernel
set_option maxRecDepth 100000 in
theorem dX9_head_7 : decode cX9_head 7 = .ok (.invokevirtual 215, 3) := by decide +kernel
set_option maxRecDepth 100000 in
theorem dX9_head_10 : decode cX9_head 10 = .ok (.ifCond .ne 6, 3) := by decide +kernel
set_option maxRecDepth 100000 in
theorem dX9_head_13 : decode cX9_head 13 = .ok (.bipush (-101), 2) := by decide +kernel
set_option maxRecDepth 100000 in
theorem dX9_head_15 : decode cX9_head 15 = .ok (.ireturn, 1) := by decide +kernel
set_option maxRecDepth 100000 in
theorem dX9_head_16 : decode cX9_head 16 = .ok (.aload_n 0, 1) := by decide +kernel
set_option maxRecDepth 100000 in
theorem dX9_head_17 : decode cX9_head 17 = .ok (.getfield 64, 3) := by decide +kernel
set_option maxRecDepth 100000 in
theorem dX9_head_20 : decode cX9_head 20 = .ok (.istore_n 2, 1) := by decide +kernel
set_option maxRecDepth 100000 in
theorem dX9_head_21 : decode cX9_head 21 = .ok (.aload_n 0, 1) := by decide +kernel
set_option maxRecDepth 100000 in
theorem dX9_head_22 : decode cX9_head 22 = .ok (.iload_n 1, 1) := by decide +kernel
set_option maxRecDepth 100000 in
theorem dX9_head_23 : decode cX9_head 23 = .ok (.putfield 64, 3) := by decide +kernel
set_option maxRecDepth 100000 in
theorem dX9_head_26 : decode cX9_head 26 = .ok (.iload_n 2, 1) := by decide +kernel
set_option maxRecDepth 100000 in
theorem dX9_head_27 : decode cX9_head 27 = .ok (.ireturn, 1) := by decide +kernel
set_option maxRecDepth 100000 in
theorem dX9_load_0 : decode cX9_load 0 = .ok (.iconst 0, 1) := by decide +kernel
set_option maxRecDepth 100000 in
theorem dX9_load_1 : decode cX9_load 1 = .ok (.istore_n 3, 1) := by decide +kernel
set_option maxRecDepth 100000 in
theorem dX9_load_2 : decode cX9_load 2 = .ok (.iload_n 3, 1) := by decide +kernel
set_option maxRecDepth 100000 in
theorem dX9_load_3 : decode cX9_load 3 = .ok (.aload_n 0, 1) := by decide +kernel
set_option maxRecDepth 100000 in
theorem dX9_load_4 : decode cX9_load 4 = .ok (.getfield 7, 3) := by decide +kernel
set_option maxRecDepth 100000 in
theorem dX9_load_7 : decode cX9_load 7 = .ok (.iload_n 1, 1) := by decide +kernel
set_option maxRecDepth 100000 in
theorem dX9_load_8 : decode cX9_load 8 = .ok (.iaload, 1) := by decide +kernel
set_option maxRecDepth 100000 in
theorem dX9_load_9 : decode cX9_load 9 = .ok (.if_icmp .ge 25, 3) := by decide +kernel
set_option maxRecDepth 100000 in
theorem dX9_load_12 : decode cX9_load 12 = .ok (.aload_n 0, 1) := by decide +kernel
set_option maxRecDepth 100000 in
theorem dX9_load_13 : decode cX9_load 13 = .ok (.getfield 96, 3) := by decide +kernel
set_option maxRecDepth 100000 in
theorem dX9_load_16 : decode cX9_load 16 = .ok (.iload_n 3, 1) := by decide +kernel
set_option maxRecDepth 100000 in
theorem dX9_load_17 : decode cX9_load 17 = .ok (.aload_n 0, 1) := by decide +kernel
set_option maxRecDepth 100000 in
theorem dX9_load_18 : decode cX9_load 18 = .ok (.getfield 19, 3) := by decide +kernel
set_option maxRecDepth 100000 in
theorem dX9_load_21 : decode cX9_load 21 = .ok (.iconst 3, 1) := by decide +kernel
set_option maxRecDepth 100000 in
theorem dX9_load_22 : decode cX9_load 22 = .ok (.iload_n 1, 1) := by decide +kernel
set_option maxRecDepth 100000 in
theorem dX9_load_23 : decode cX9_load 23 = .ok (.imul, 1) := by decide +kernel
set_option maxRecDepth 100000 in
theorem dX9_load_24 : decode cX9_load 24 = .ok (.iload_n 3, 1) := by decide +kernel
set_option maxRecDepth 100000 in
theorem dX9_load_25 : decode cX9_load 25 = .ok (.iadd, 1) := by decide +kernel
set_option maxRecDepth 100000 in
theorem dX9_load_26 : decode cX9_load 26 = .ok (.iaload, 1) := by decide +kernel
set_option maxRecDepth 100000 in
theorem dX9_load_27 : decode cX9_load 27 = .ok (.iastore, 1) := by decide +kernel
set_option maxRecDepth 100000 in
theorem dX9_load_28 : decode cX9_load 28 = .ok (.iinc 3 1, 3) := by decide +kernel
set_option maxRecDepth 100000 in
theorem dX9_load_31 : decode cX9_load 31 = .ok (.goto (-29), 3) := by decide +kernel
set_option maxRecDepth 100000 in
theorem dX9_load_34 : decode cX9_load 34 = .ok (.aload_n 0, 1) := by decide +kernel
set_option maxRecDepth 100000 in
theorem dX9_load_35 : decode cX9_load 35 = .ok (.aload_n 0, 1) := by decide +kernel
set_option maxRecDepth 100000 in
theorem dX9_load_36 : decode cX9_load 36 = .ok (.getfield 28, 3) := by decide +kernel
set_option maxRecDepth 100000 in
theorem dX9_load_39 : decode cX9_load 39 = .ok (.iload_n 1, 1) := by decide +kernel
set_option maxRecDepth 100000 in
theorem dX9_load_40 : decode cX9_load 40 = .ok (.iaload, 1) := by decide +kernel
set_option maxRecDepth 100000 in
theorem dX9_load_41 : decode cX9_load 41 = .ok (.putfield 218, 3) := by decide +kernel
set_option maxRecDepth 100000 in
theorem dX9_load_44 : decode cX9_load 44 = .ok (.aload_n 0, 1) := by decide +kernel
set_option maxRecDepth 100000 in
theorem dX9_load_45 : decode cX9_load 45 = .ok (.iconst 1, 1) := by decide +kernel
set_option maxRecDepth 100000 in
theorem dX9_load_46 : decode cX9_load 46 = .ok (.putfield 221, 3) := by decide +kernel
set_option maxRecDepth 100000 in
theorem dX9_load_49 : decode cX9_load 49 = .ok (.aload_n 0, 1) := by decide +kernel
set_option maxRecDepth 100000 in
theorem dX9_load_50 : decode cX9_load 50 = .ok (.iload_n 2, 1) := by decide +kernel
set_option maxRecDepth 100000 in
theorem dX9_load_51 : decode cX9_load 51 = .ok (.iconst (-1), 1) := by decide +kernel
set_option maxRecDepth 100000 in
theorem dX9_load_52 : decode cX9_load 52 = .ok (.if_icmp .ne 7, 3) := by decide +kernel
set_option maxRecDepth 100000 in
theorem dX9_load_55 : decode cX9_load 55 = .ok (.iconst 0, 1) := by decide +kernel
set_option maxRecDepth 100000 in
theorem dX9_load_56 : decode cX9_load 56 = .ok (.goto 9, 3) := by decide +kernel
set_option maxRecDepth 100000 in
theorem dX9_load_59 : decode cX9_load 59 = .ok (.aload_n 0, 1) := by decide +kernel
set_option maxRecDepth 100000 in
theorem dX9_load_60 : decode cX9_load 60 = .ok (.getfield 43, 3) := by decide +kernel
set_option maxRecDepth 100000 in
theorem dX9_load_63 : decode cX9_load 63 = .ok (.iload_n 2, 1) := by decide +kernel
set_option maxRecDepth 100000 in
theorem dX9_load_64 : decode cX9_load 64 = .ok (.iaload, 1) := by decide +kernel
set_option maxRecDepth 100000 in
theorem dX9_load_65 : decode cX9_load 65 = .ok (.putfield 224, 3) := by decide +kernel
set_option maxRecDepth 100000 in
theorem dX9_load_68 : decode cX9_load 68 = .ok (.aload_n 0, 1) := by decide +kernel
set_option maxRecDepth 100000 in
theorem dX9_load_69 : decode cX9_load 69 = .ok (.iload_n 2, 1) := by decide +kernel
set_option maxRecDepth 100000 in
theorem dX9_load_70 : decode cX9_load 70 = .ok (.iconst (-1), 1) := by decide +kernel
set_option maxRecDepth 100000 in
theorem dX9_load_71 : decode cX9_load 71 = .ok (.if_icmp .ne 7, 3) := by decide +kernel
set_option maxRecDepth 100000 in
theorem dX9_load_74 : decode cX9_load 74 = .ok (.iconst 0, 1) := by decide +kernel
set_option maxRecDepth 100000 in
theorem dX9_load_75 : decode cX9_load 75 = .ok (.goto 9, 3) := by decide +kernel
set_option maxRecDepth 100000 in
theorem dX9_load_78 : decode cX9_load 78 = .ok (.aload_n 0, 1) := by decide +kernel
set_option maxRecDepth 100000 in
theorem dX9_load_79 : decode cX9_load 79 = .ok (.getfield 46, 3) := by decide +kernel
set_option maxRecDepth 100000 in
theorem dX9_load_82 : decode cX9_load 82 = .ok (.iload_n 2, 1) := by decide +kernel
set_option maxRecDepth 100000 in
theorem dX9_load_83 : decode cX9_load 83 = .ok (.iaload, 1) := by decide +kernel
set_option maxRecDepth 100000 in
theorem dX9_load_84 : decode cX9_load 84 = .ok (.putfield 227, 3) := by decide +kernel
set_option maxRecDepth 100000 in
theorem dX9_load_87 : decode cX9_load 87 = .ok (.aload_n 0, 1) := by decide +kernel
set_option maxRecDepth 100000 in
theorem dX9_load_88 : decode cX9_load 88 = .ok (.iload_n 2, 1) := by decide +kernel
set_option maxRecDepth 100000 in
theorem dX9_load_89 : decode cX9_load 89 = .ok (.iconst (-1), 1) := by decide +kernel
set_option maxRecDepth 100000 in
theorem dX9_load_90 : decode cX9_load 90 = .ok (.if_icmp .ne 7, 3) := by decide +kernel
set_option maxRecDepth 100000 in
theorem dX9_load_93 : decode cX9_load 93 = .ok (.iconst 0, 1) := by decide +kernel
set_option maxRecDepth 100000 in
theorem dX9_load_94 : decode cX9_load 94 = .ok (.goto 9, 3) := by decide +kernel
set_option maxRecDepth 100000 in
theorem dX9_load_97 : decode cX9_load 97 = .ok (.aload_n 0, 1) := by decide +kernel
set_option maxRecDepth 100000 in
theorem dX9_load_98 : decode cX9_load 98 = .ok (.getfield 49, 3) := by decide +kernel
set_option maxRecDepth 100000 in
theorem dX9_load_101 : decode cX9_load 101 = .ok (.iload_n 2, 1) := by decide +kernel
set_option maxRecDepth 100000 in
theorem dX9_load_102 : decode cX9_load 102 = .ok (.iaload, 1) := by decide +kernel
set_option maxRecDepth 100000 in
theorem dX9_load_103 : decode cX9_load 103 = .ok (.putfield 230, 3) := by decide +kernel
set_option maxRecDepth 100000 in
theorem dX9_load_106 : decode cX9_load 106 = .ok (.aload_n 0, 1) := by decide +kernel
set_option maxRecDepth 100000 in
theorem dX9_load_107 : decode cX9_load 107 = .ok (.iload_n 2, 1) := by decide +kernel
set_option maxRecDepth 100000 in
theorem dX9_load_108 : decode cX9_load 108 = .ok (.iconst (-1), 1) := by decide +kernel
set_option maxRecDepth 100000 in
theorem dX9_load_109 : decode cX9_load 109 = .ok (.if_icmp .ne 7, 3) := by decide +kernel
set_option maxRecDepth 100000 in
theorem dX9_load_112 : decode cX9_load 112 = .ok (.iconst 0, 1) := by decide +kernel
set_option maxRecDepth 100000 in
theorem dX9_load_113 : decode cX9_load 113 = .ok (.goto 9, 3) := by decide +kernel
set_option maxRecDepth 100000 in
theorem dX9_load_116 : decode cX9_load 116 = .ok (.aload_n 0, 1) := by decide +kernel
set_option maxRecDepth 100000 in
theorem dX9_load_117 : decode cX9_load 117 = .ok (.getfield 52, 3) := by decide +kernel
set_option maxRecDepth 100000 in
theorem dX9_load_120 : decode cX9_load 120 = .ok (.iload_n 2, 1) := by decide +kernel
set_option maxRecDepth 100000 in
theorem dX9_load_121 : decode cX9_load 121 = .ok (.iaload, 1) := by decide +kernel
set_option maxRecDepth 100000 in
theorem dX9_load_122 : decode cX9_load 122 = .ok (.putfield 233, 3) := by decide +kernel
set_option maxRecDepth 100000 in
theorem dX9_load_125 : decode cX9_load 125 = .ok (.return_, 1) := by decide +kernel
set_option maxRecDepth 100000 in
theorem dX9_come_0 : decode cX9_come 0 = .ok (.aload_n 0, 1) := by decide +kernel
set_option maxRecDepth 100000 in
theorem dX9_come_1 : decode cX9_come 1 = .ok (.getfield 13, 3) := by decide +kernel
set_option maxRecDepth 100000 in
theorem dX9_come_4 : decode cX9_come 4 = .ok (.iconst 3, 1) := by decide +kernel
set_option maxRecDepth 100000 in
theorem dX9_come_5 : decode cX9_come 5 = .ok (.iload_n 1, 1) := by decide +kernel
set_option maxRecDepth 100000 in
theorem dX9_come_6 : decode cX9_come 6 = .ok (.imul, 1) := by decide +kernel
set_option maxRecDepth 100000 in
theorem dX9_come_7 : decode cX9_come 7 = .ok (.iload_n 2, 1) := by decide +kernel
set_option maxRecDepth 100000 in
theorem dX9_come_8 : decode cX9_come 8 = .ok (.iadd, 1) := by decide +kernel
set_option maxRecDepth 100000 in
theorem dX9_come_9 : decode cX9_come 9 = .ok (.iaload, 1) := by decide +kernel
set_option maxRecDepth 100000 in
theorem dX9_come_10 : decode cX9_come 10 = .ok (.aload_n 0, 1) := by decide +kernel
set_option maxRecDepth 100000 in
theorem dX9_come_11 : decode cX9_come 11 = .ok (.getfield 16, 3) := by decide +kernel
set_option maxRecDepth 100000 in
theorem dX9_come_14 : decode cX9_come 14 = .ok (.iconst 3, 1) := by decide +kernel
set_option maxRecDepth 100000 in
theorem dX9_come_15 : decode cX9_come 15 = .ok (.iload_n 1, 1) := by decide +kernel
set_option maxRecDepth 100000 in
theorem dX9_come_16 : decode cX9_come 16 = .ok (.imul, 1) := by decide +kernel
set_option maxRecDepth 100000 in
theorem dX9_come_17 : decode cX9_come 17 = .ok (.iload_n 2, 1) := by decide +kernel
set_option maxRecDepth 100000 in
theorem dX9_come_18 : decode cX9_come 18 = .ok (.iadd, 1) := by decide +kernel
set_option maxRecDepth 100000 in
theorem dX9_come_19 : decode cX9_come 19 = .ok (.iaload, 1) := by decide +kernel
set_option maxRecDepth 100000 in
theorem dX9_come_20 : decode cX9_come 20 = .ok (.imul, 1) := by decide +kernel
set_option maxRecDepth 100000 in
theorem dX9_come_21 : decode cX9_come 21 = .ok (.istore 4, 2) := by decide +kernel
set_option maxRecDepth 100000 in
theorem dX9_come_23 : decode cX9_come 23 = .ok (.aload_n 0, 1) := by decide +kernel
set_option maxRecDepth 100000 in
theorem dX9_come_24 : decode cX9_come 24 = .ok (.getfield 99, 3) := by decide +kernel
set_option maxRecDepth 100000 in
theorem dX9_come_27 : decode cX9_come 27 = .ok (.iload_n 2, 1) := by decide +kernel
set_option maxRecDepth 100000 in
theorem dX9_come_28 : decode cX9_come 28 = .ok (.iaload, 1) := by decide +kernel
set_option maxRecDepth 100000 in
theorem dX9_come_29 : decode cX9_come 29 = .ok (.iload_n 3, 1) := by decide +kernel
set_option maxRecDepth 100000 in
theorem dX9_come_30 : decode cX9_come 30 = .ok (.iadd, 1) := by decide +kernel
set_option maxRecDepth 100000 in
theorem dX9_come_31 : decode cX9_come 31 = .ok (.istore 5, 2) := by decide +kernel
set_option maxRecDepth 100000 in
theorem dX9_come_33 : decode cX9_come 33 = .ok (.aload_n 0, 1) := by decide +kernel
set_option maxRecDepth 100000 in
theorem dX9_come_34 : decode cX9_come 34 = .ok (.dup, 1) := by decide +kernel
set_option maxRecDepth 100000 in
theorem dX9_come_35 : decode cX9_come 35 = .ok (.getfield 236, 3) := by decide +kernel
set_option maxRecDepth 100000 in
theorem dX9_come_38 : decode cX9_come 38 = .ok (.iload 5, 2) := by decide +kernel
set_option maxRecDepth 100000 in
theorem dX9_come_40 : decode cX9_come 40 = .ok (.iload 4, 2) := by decide +kernel
set_option maxRecDepth 100000 in
theorem dX9_come_42 : decode cX9_come 42 = .ok (.if_icmp .le 11, 3) := by decide +kernel
set_option maxRecDepth 100000 in
theorem dX9_come_45 : decode cX9_come 45 = .ok (.iload 5, 2) := by decide +kernel
set_option maxRecDepth 100000 in
theorem dX9_come_47 : decode cX9_come 47 = .ok (.iload 4, 2) := by decide +kernel
set_option maxRecDepth 100000 in
theorem dX9_come_49 : decode cX9_come 49 = .ok (.isub, 1) := by decide +kernel
set_option maxRecDepth 100000 in
theorem dX9_come_50 : decode cX9_come 50 = .ok (.goto 4, 3) := by decide +kernel
set_option maxRecDepth 100000 in
theorem dX9_come_53 : decode cX9_come 53 = .ok (.iconst 0, 1) := by decide +kernel
set_option maxRecDepth 100000 in
theorem dX9_come_54 : decode cX9_come 54 = .ok (.iadd, 1) := by decide +kernel
set_option maxRecDepth 100000 in
theorem dX9_come_55 : decode cX9_come 55 = .ok (.putfield 236, 3) := by decide +kernel
set_option maxRecDepth 100000 in
theorem dX9_come_58 : decode cX9_come 58 = .ok (.aload_n 0, 1) := by decide +kernel
set_option maxRecDepth 100000 in
theorem dX9_come_59 : decode cX9_come 59 = .ok (.getfield 99, 3) := by decide +kernel
set_option maxRecDepth 100000 in
theorem dX9_come_62 : decode cX9_come 62 = .ok (.iload_n 2, 1) := by decide +kernel
set_option maxRecDepth 100000 in
theorem dX9_come_63 : decode cX9_come 63 = .ok (.iload 5, 2) := by decide +kernel
set_option maxRecDepth 100000 in
theorem dX9_come_65 : decode cX9_come 65 = .ok (.iload 4, 2) := by decide +kernel
set_option maxRecDepth 100000 in
theorem dX9_come_67 : decode cX9_come 67 = .ok (.invokestatic 239, 3) := by decide +kernel
set_option maxRecDepth 100000 in
theorem dX9_come_70 : decode cX9_come 70 = .ok (.iastore, 1) := by decide +kernel
set_option maxRecDepth 100000 in
theorem dX9_come_71 : decode cX9_come 71 = .ok (.return_, 1) := by decide +kernel
set_option maxRecDepth 100000 in
theorem dX9_hole_0 : decode cX9_hole 0 = .ok (.aload_n 0, 1) := by decide +kernel
set_option maxRecDepth 100000 in
theorem dX9_hole_1 : decode cX9_hole 1 = .ok (.getfield 96, 3) := by decide +kernel
set_option maxRecDepth 100000 in
theorem dX9_hole_4 : decode cX9_hole 4 = .ok (.iload_n 1, 1) := by decide +kernel
set_option maxRecDepth 100000 in
theorem dX9_hole_5 : decode cX9_hole 5 = .ok (.iaload, 1) := by decide +kernel
set_option maxRecDepth 100000 in
theorem dX9_hole_6 : decode cX9_hole 6 = .ok (.istore_n 3, 1) := by decide +kernel
set_option maxRecDepth 100000 in
theorem dX9_hole_7 : decode cX9_hole 7 = .ok (.iload_n 2, 1) := by decide +kernel
set_option maxRecDepth 100000 in
theorem dX9_hole_8 : decode cX9_hole 8 = .ok (.aload_n 0, 1) := by decide +kernel
set_option maxRecDepth 100000 in
theorem dX9_hole_9 : decode cX9_hole 9 = .ok (.getfield 233, 3) := by decide +kernel
set_option maxRecDepth 100000 in
theorem dX9_hole_12 : decode cX9_hole 12 = .ok (.if_icmp .lt 49, 3) := by decide +kernel
set_option maxRecDepth 100000 in
theorem dX9_hole_15 : decode cX9_hole 15 = .ok (.iload_n 1, 1) := by decide +kernel
set_option maxRecDepth 100000 in
theorem dX9_hole_16 : decode cX9_hole 16 = .ok (.aload_n 0, 1) := by decide +kernel
set_option maxRecDepth 100000 in
theorem dX9_hole_17 : decode cX9_hole 17 = .ok (.getfield 227, 3) := by decide +kernel
set_option maxRecDepth 100000 in
theorem dX9_hole_20 : decode cX9_hole 20 = .ok (.if_icmp .ne 41, 3) := by decide +kernel
set_option maxRecDepth 100000 in
theorem dX9_hole_23 : decode cX9_hole 23 = .ok (.iload_n 3, 1) := by decide +kernel
set_option maxRecDepth 100000 in
theorem dX9_hole_24 : decode cX9_hole 24 = .ok (.aload_n 0, 1) := by decide +kernel
set_option maxRecDepth 100000 in
theorem dX9_hole_25 : decode cX9_hole 25 = .ok (.getfield 224, 3) := by decide +kernel
set_option maxRecDepth 100000 in
theorem dX9_hole_28 : decode cX9_hole 28 = .ok (.iconst 1, 1) := by decide +kernel
set_option maxRecDepth 100000 in
theorem dX9_hole_29 : decode cX9_hole 29 = .ok (.if_icmp .ne 10, 3) := by decide +kernel
set_option maxRecDepth 100000 in
theorem dX9_hole_32 : decode cX9_hole 32 = .ok (.aload_n 0, 1) := by decide +kernel
set_option maxRecDepth 100000 in
theorem dX9_hole_33 : decode cX9_hole 33 = .ok (.getfield 230, 3) := by decide +kernel
set_option maxRecDepth 100000 in
theorem dX9_hole_36 : decode cX9_hole 36 = .ok (.goto 4, 3) := by decide +kernel
set_option maxRecDepth 100000 in
theorem dX9_hole_39 : decode cX9_hole 39 = .ok (.iconst 0, 1) := by decide +kernel
set_option maxRecDepth 100000 in
theorem dX9_hole_40 : decode cX9_hole 40 = .ok (.isub, 1) := by decide +kernel
set_option maxRecDepth 100000 in
theorem dX9_hole_41 : decode cX9_hole 41 = .ok (.istore_n 3, 1) := by decide +kernel
set_option maxRecDepth 100000 in
theorem dX9_hole_42 : decode cX9_hole 42 = .ok (.iload_n 3, 1) := by decide +kernel
set_option maxRecDepth 100000 in
theorem dX9_hole_43 : decode cX9_hole 43 = .ok (.aload_n 0, 1) := by decide +kernel
set_option maxRecDepth 100000 in
theorem dX9_hole_44 : decode cX9_hole 44 = .ok (.getfield 224, 3) := by decide +kernel
set_option maxRecDepth 100000 in
theorem dX9_hole_47 : decode cX9_hole 47 = .ok (.iconst 2, 1) := by decide +kernel
set_option maxRecDepth 100000 in
theorem dX9_hole_48 : decode cX9_hole 48 = .ok (.if_icmp .ne 10, 3) := by decide +kernel
set_option maxRecDepth 100000 in
theorem dX9_hole_51 : decode cX9_hole 51 = .ok (.aload_n 0, 1) := by decide +kernel
set_option maxRecDepth 100000 in
theorem dX9_hole_52 : decode cX9_hole 52 = .ok (.getfield 230, 3) := by decide +kernel
set_option maxRecDepth 100000 in
theorem dX9_hole_55 : decode cX9_hole 55 = .ok (.goto 4, 3) := by decide +kernel
set_option maxRecDepth 100000 in
theorem dX9_hole_58 : decode cX9_hole 58 = .ok (.iconst 0, 1) := by decide +kernel
set_option maxRecDepth 100000 in
theorem dX9_hole_59 : decode cX9_hole 59 = .ok (.iadd, 1) := by decide +kernel
set_option maxRecDepth 100000 in
theorem dX9_hole_60 : decode cX9_hole 60 = .ok (.istore_n 3, 1) := by decide +kernel
set_option maxRecDepth 100000 in
theorem dX9_hole_61 : decode cX9_hole 61 = .ok (.iload_n 3, 1) := by decide +kernel
set_option maxRecDepth 100000 in
theorem dX9_hole_62 : decode cX9_hole 62 = .ok (.ifCond .ge 7, 3) := by decide +kernel
set_option maxRecDepth 100000 in
theorem dX9_hole_65 : decode cX9_hole 65 = .ok (.iconst 0, 1) := by decide +kernel
set_option maxRecDepth 100000 in
theorem dX9_hole_66 : decode cX9_hole 66 = .ok (.goto 4, 3) := by decide +kernel
set_option maxRecDepth 100000 in
theorem dX9_hole_69 : decode cX9_hole 69 = .ok (.iload_n 3, 1) := by decide +kernel
set_option maxRecDepth 100000 in
theorem dX9_hole_70 : decode cX9_hole 70 = .ok (.ireturn, 1) := by decide +kernel
set_option maxRecDepth 100000 in
theorem dX9_tick_0 : decode cX9_tick 0 = .ok (.aload_n 0, 1) := by decide +kernel
set_option maxRecDepth 100000 in
theorem dX9_tick_1 : decode cX9_tick 1 = .ok (.iload_n 1, 1) := by decide +kernel
set_option maxRecDepth 100000 in
theorem dX9_tick_2 : decode cX9_tick 2 = .ok (.iconst 0, 1) := by decide +kernel
set_option maxRecDepth 100000 in
theorem dX9_tick_3 : decode cX9_tick 3 = .ok (.aload_n 0, 1) := by decide +kernel
set_option maxRecDepth 100000 in
theorem dX9_tick_4 : decode cX9_tick 4 = .ok (.getfield 218, 3) := by decide +kernel
set_option maxRecDepth 100000 in
theorem dX9_tick_7 : decode cX9_tick 7 = .ok (.invokevirtual 242, 3) := by decide +kernel
set_option maxRecDepth 100000 in
theorem dX9_tick_10 : decode cX9_tick 10 = .ok (.aload_n 0, 1) := by decide +kernel
set_option maxRecDepth 100000 in
theorem dX9_tick_11 : decode cX9_tick 11 = .ok (.getfield 37, 3) := by decide +kernel
set_option maxRecDepth 100000 in
theorem dX9_tick_14 : decode cX9_tick 14 = .ok (.iload_n 2, 1) := by decide +kernel
set_option maxRecDepth 100000 in
theorem dX9_tick_15 : decode cX9_tick 15 = .ok (.iaload, 1) := by decide +kernel
set_option maxRecDepth 100000 in
theorem dX9_tick_16 : decode cX9_tick 16 = .ok (.aload_n 0, 1) := by decide +kernel
set_option maxRecDepth 100000 in
theorem dX9_tick_17 : decode cX9_tick 17 = .ok (.getfield 224, 3) := by decide +kernel
set_option maxRecDepth 100000 in
theorem dX9_tick_20 : decode cX9_tick 20 = .ok (.iconst 4, 1) := by decide +kernel
set_option maxRecDepth 100000 in
theorem dX9_tick_21 : decode cX9_tick 21 = .ok (.if_icmp .ne 18, 3) := by decide +kernel
set_option maxRecDepth 100000 in
theorem dX9_tick_24 : decode cX9_tick 24 = .ok (.iload_n 3, 1) := by decide +kernel
set_option maxRecDepth 100000 in
theorem dX9_tick_25 : decode cX9_tick 25 = .ok (.aload_n 0, 1) := by decide +kernel
set_option maxRecDepth 100000 in
theorem dX9_tick_26 : decode cX9_tick 26 = .ok (.getfield 233, 3) := by decide +kernel
set_option maxRecDepth 100000 in
theorem dX9_tick_29 : decode cX9_tick 29 = .ok (.if_icmp .lt 10, 3) := by decide +kernel
set_option maxRecDepth 100000 in
theorem dX9_tick_32 : decode cX9_tick 32 = .ok (.aload_n 0, 1) := by decide +kernel
set_option maxRecDepth 100000 in
theorem dX9_tick_33 : decode cX9_tick 33 = .ok (.getfield 230, 3) := by decide +kernel
set_option maxRecDepth 100000 in
theorem dX9_tick_36 : decode cX9_tick 36 = .ok (.goto 4, 3) := by decide +kernel
set_option maxRecDepth 100000 in
theorem dX9_tick_39 : decode cX9_tick 39 = .ok (.iconst 0, 1) := by decide +kernel
set_option maxRecDepth 100000 in
theorem dX9_tick_40 : decode cX9_tick 40 = .ok (.isub, 1) := by decide +kernel
set_option maxRecDepth 100000 in
theorem dX9_tick_41 : decode cX9_tick 41 = .ok (.istore 4, 2) := by decide +kernel
set_option maxRecDepth 100000 in
theorem dX9_tick_43 : decode cX9_tick 43 = .ok (.iconst 0, 1) := by decide +kernel
set_option maxRecDepth 100000 in
theorem dX9_tick_44 : decode cX9_tick 44 = .ok (.istore 5, 2) := by decide +kernel
set_option maxRecDepth 100000 in
theorem dX9_tick_46 : decode cX9_tick 46 = .ok (.iconst 0, 1) := by decide +kernel
set_option maxRecDepth 100000 in
theorem dX9_tick_47 : decode cX9_tick 47 = .ok (.istore 6, 2) := by decide +kernel
set_option maxRecDepth 100000 in
theorem dX9_tick_49 : decode cX9_tick 49 = .ok (.iload 6, 2) := by decide +kernel
set_option maxRecDepth 100000 in
theorem dX9_tick_51 : decode cX9_tick 51 = .ok (.aload_n 0, 1) := by decide +kernel
set_option maxRecDepth 100000 in
theorem dX9_tick_52 : decode cX9_tick 52 = .ok (.getfield 7, 3) := by decide +kernel
set_option maxRecDepth 100000 in
theorem dX9_tick_55 : decode cX9_tick 55 = .ok (.iload_n 1, 1) := by decide +kernel
set_option maxRecDepth 100000 in
theorem dX9_tick_56 : decode cX9_tick 56 = .ok (.iaload, 1) := by decide +kernel
set_option maxRecDepth 100000 in
theorem dX9_tick_57 : decode cX9_tick 57 = .ok (.if_icmp .ge 98, 3) := by decide +kernel
set_option maxRecDepth 100000 in
theorem dX9_tick_60 : decode cX9_tick 60 = .ok (.aload_n 0, 1) := by decide +kernel
set_option maxRecDepth 100000 in
theorem dX9_tick_61 : decode cX9_tick 61 = .ok (.getfield 99, 3) := by decide +kernel
set_option maxRecDepth 100000 in
theorem dX9_tick_64 : decode cX9_tick 64 = .ok (.iload 6, 2) := by decide +kernel
set_option maxRecDepth 100000 in
theorem dX9_tick_66 : decode cX9_tick 66 = .ok (.iaload, 1) := by decide +kernel
set_option maxRecDepth 100000 in
theorem dX9_tick_67 : decode cX9_tick 67 = .ok (.aload_n 0, 1) := by decide +kernel
set_option maxRecDepth 100000 in
theorem dX9_tick_68 : decode cX9_tick 68 = .ok (.iload 6, 2) := by decide +kernel
set_option maxRecDepth 100000 in
theorem dX9_tick_70 : decode cX9_tick 70 = .ok (.iload_n 3, 1) := by decide +kernel
set_option maxRecDepth 100000 in
theorem dX9_tick_71 : decode cX9_tick 71 = .ok (.invokevirtual 246, 3) := by decide +kernel
set_option maxRecDepth 100000 in
theorem dX9_tick_74 : decode cX9_tick 74 = .ok (.aload_n 0, 1) := by decide +kernel
set_option maxRecDepth 100000 in
theorem dX9_tick_75 : decode cX9_tick 75 = .ok (.getfield 99, 3) := by decide +kernel
set_option maxRecDepth 100000 in
theorem dX9_tick_78 : decode cX9_tick 78 = .ok (.iload 6, 2) := by decide +kernel
set_option maxRecDepth 100000 in
theorem dX9_tick_80 : decode cX9_tick 80 = .ok (.iaload, 1) := by decide +kernel
set_option maxRecDepth 100000 in
theorem dX9_tick_81 : decode cX9_tick 81 = .ok (.aload_n 0, 1) := by decide +kernel
set_option maxRecDepth 100000 in
theorem dX9_tick_82 : decode cX9_tick 82 = .ok (.getfield 13, 3) := by decide +kernel
set_option maxRecDepth 100000 in
theorem dX9_tick_85 : decode cX9_tick 85 = .ok (.iconst 3, 1) := by decide +kernel
set_option maxRecDepth 100000 in
theorem dX9_tick_86 : decode cX9_tick 86 = .ok (.iload_n 1, 1) := by decide +kernel
set_option maxRecDepth 100000 in
theorem dX9_tick_87 : decode cX9_tick 87 = .ok (.imul, 1) := by decide +kernel
set_option maxRecDepth 100000 in
theorem dX9_tick_88 : decode cX9_tick 88 = .ok (.iload 6, 2) := by decide +kernel
set_option maxRecDepth 100000 in
theorem dX9_tick_90 : decode cX9_tick 90 = .ok (.iadd, 1) := by decide +kernel
set_option maxRecDepth 100000 in
theorem dX9_tick_91 : decode cX9_tick 91 = .ok (.iaload, 1) := by decide +kernel
set_option maxRecDepth 100000 in
theorem dX9_tick_92 : decode cX9_tick 92 = .ok (.idiv, 1) := by decide +kernel
set_option maxRecDepth 100000 in
theorem dX9_tick_93 : decode cX9_tick 93 = .ok (.imul, 1) := by decide +kernel
set_option maxRecDepth 100000 in
theorem dX9_tick_94 : decode cX9_tick 94 = .ok (.iload 4, 2) := by decide +kernel
set_option maxRecDepth 100000 in
theorem dX9_tick_96 : decode cX9_tick 96 = .ok (.imul, 1) := by decide +kernel
set_option maxRecDepth 100000 in
theorem dX9_tick_97 : decode cX9_tick 97 = .ok (.sipush 1000, 3) := by decide +kernel
set_option maxRecDepth 100000 in
theorem dX9_tick_100 : decode cX9_tick 100 = .ok (.idiv, 1) := by decide +kernel
set_option maxRecDepth 100000 in
theorem dX9_tick_101 : decode cX9_tick 101 = .ok (.invokestatic 239, 3) := by decide +kernel
set_option maxRecDepth 100000 in
theorem dX9_tick_104 : decode cX9_tick 104 = .ok (.istore 7, 2) := by decide +kernel
set_option maxRecDepth 100000 in
theorem dX9_tick_106 : decode cX9_tick 106 = .ok (.aload_n 0, 1) := by decide +kernel
set_option maxRecDepth 100000 in
theorem dX9_tick_107 : decode cX9_tick 107 = .ok (.getfield 99, 3) := by decide +kernel
set_option maxRecDepth 100000 in
theorem dX9_tick_110 : decode cX9_tick 110 = .ok (.iload 6, 2) := by decide +kernel
set_option maxRecDepth 100000 in
theorem dX9_tick_112 : decode cX9_tick 112 = .ok (.dup2, 1) := by decide +kernel
set_option maxRecDepth 100000 in
theorem dX9_tick_113 : decode cX9_tick 113 = .ok (.iaload, 1) := by decide +kernel
set_option maxRecDepth 100000 in
theorem dX9_tick_114 : decode cX9_tick 114 = .ok (.iload 7, 2) := by decide +kernel
set_option maxRecDepth 100000 in
theorem dX9_tick_116 : decode cX9_tick 116 = .ok (.isub, 1) := by decide +kernel
set_option maxRecDepth 100000 in
theorem dX9_tick_117 : decode cX9_tick 117 = .ok (.iastore, 1) := by decide +kernel
set_option maxRecDepth 100000 in
theorem dX9_tick_118 : decode cX9_tick 118 = .ok (.iload 6, 2) := by decide +kernel
set_option maxRecDepth 100000 in
theorem dX9_tick_120 : decode cX9_tick 120 = .ok (.iconst 1, 1) := by decide +kernel
set_option maxRecDepth 100000 in
theorem dX9_tick_121 : decode cX9_tick 121 = .ok (.iadd, 1) := by decide +kernel
set_option maxRecDepth 100000 in
theorem dX9_tick_122 : decode cX9_tick 122 = .ok (.aload_n 0, 1) := by decide +kernel
set_option maxRecDepth 100000 in
theorem dX9_tick_123 : decode cX9_tick 123 = .ok (.getfield 7, 3) := by decide +kernel
set_option maxRecDepth 100000 in
theorem dX9_tick_126 : decode cX9_tick 126 = .ok (.iload_n 1, 1) := by decide +kernel
set_option maxRecDepth 100000 in
theorem dX9_tick_127 : decode cX9_tick 127 = .ok (.iaload, 1) := by decide +kernel
set_option maxRecDepth 100000 in
theorem dX9_tick_128 : decode cX9_tick 128 = .ok (.if_icmp .ge 17, 3) := by decide +kernel
set_option maxRecDepth 100000 in
theorem dX9_tick_131 : decode cX9_tick 131 = .ok (.aload_n 0, 1) := by decide +kernel
set_option maxRecDepth 100000 in
theorem dX9_tick_132 : decode cX9_tick 132 = .ok (.iload_n 1, 1) := by decide +kernel
set_option maxRecDepth 100000 in
theorem dX9_tick_133 : decode cX9_tick 133 = .ok (.iload 6, 2) := by decide +kernel
set_option maxRecDepth 100000 in
theorem dX9_tick_135 : decode cX9_tick 135 = .ok (.iconst 1, 1) := by decide +kernel
set_option maxRecDepth 100000 in
theorem dX9_tick_136 : decode cX9_tick 136 = .ok (.iadd, 1) := by decide +kernel
set_option maxRecDepth 100000 in
theorem dX9_tick_137 : decode cX9_tick 137 = .ok (.iload 7, 2) := by decide +kernel
set_option maxRecDepth 100000 in
theorem dX9_tick_139 : decode cX9_tick 139 = .ok (.invokevirtual 242, 3) := by decide +kernel
set_option maxRecDepth 100000 in
theorem dX9_tick_142 : decode cX9_tick 142 = .ok (.goto 7, 3) := by decide +kernel
set_option maxRecDepth 100000 in
theorem dX9_tick_145 : decode cX9_tick 145 = .ok (.iload 7, 2) := by decide +kernel
set_option maxRecDepth 100000 in
theorem dX9_tick_147 : decode cX9_tick 147 = .ok (.istore 5, 2) := by decide +kernel
set_option maxRecDepth 100000 in
theorem dX9_tick_149 : decode cX9_tick 149 = .ok (.iinc 6 1, 3) := by decide +kernel
set_option maxRecDepth 100000 in
theorem dX9_tick_152 : decode cX9_tick 152 = .ok (.goto (-103), 3) := by decide +kernel
set_option maxRecDepth 100000 in
theorem dX9_tick_155 : decode cX9_tick 155 = .ok (.aload_n 0, 1) := by decide +kernel
set_option maxRecDepth 100000 in
theorem dX9_tick_156 : decode cX9_tick 156 = .ok (.dup, 1) := by decide +kernel
set_option maxRecDepth 100000 in
theorem dX9_tick_157 : decode cX9_tick 157 = .ok (.getfield 249, 3) := by decide +kernel
set_option maxRecDepth 100000 in
theorem dX9_tick_160 : decode cX9_tick 160 = .ok (.iload 5, 2) := by decide +kernel
set_option maxRecDepth 100000 in
theorem dX9_tick_162 : decode cX9_tick 162 = .ok (.iadd, 1) := by decide +kernel
set_option maxRecDepth 100000 in
theorem dX9_tick_163 : decode cX9_tick 163 = .ok (.putfield 249, 3) := by decide +kernel
set_option maxRecDepth 100000 in
theorem dX9_tick_166 : decode cX9_tick 166 = .ok (.aload_n 0, 1) := by decide +kernel
set_option maxRecDepth 100000 in
theorem dX9_tick_167 : decode cX9_tick 167 = .ok (.iload_n 3, 1) := by decide +kernel
set_option maxRecDepth 100000 in
theorem dX9_tick_168 : decode cX9_tick 168 = .ok (.ifCond .eq 12, 3) := by decide +kernel
set_option maxRecDepth 100000 in
theorem dX9_tick_171 : decode cX9_tick 171 = .ok (.iload 5, 2) := by decide +kernel
set_option maxRecDepth 100000 in
theorem dX9_tick_173 : decode cX9_tick 173 = .ok (.aload_n 0, 1) := by decide +kernel
set_option maxRecDepth 100000 in
theorem dX9_tick_174 : decode cX9_tick 174 = .ok (.getfield 252, 3) := by decide +kernel
set_option maxRecDepth 100000 in
theorem dX9_tick_177 : decode cX9_tick 177 = .ok (.if_icmp .ge 8, 3) := by decide +kernel
set_option maxRecDepth 100000 in
theorem dX9_tick_180 : decode cX9_tick 180 = .ok (.iload 5, 2) := by decide +kernel
set_option maxRecDepth 100000 in
theorem dX9_tick_182 : decode cX9_tick 182 = .ok (.goto 7, 3) := by decide +kernel
set_option maxRecDepth 100000 in
theorem dX9_tick_185 : decode cX9_tick 185 = .ok (.aload_n 0, 1) := by decide +kernel
set_option maxRecDepth 100000 in
theorem dX9_tick_186 : decode cX9_tick 186 = .ok (.getfield 252, 3) := by decide +kernel
set_option maxRecDepth 100000 in
theorem dX9_tick_189 : decode cX9_tick 189 = .ok (.putfield 252, 3) := by decide +kernel
set_option maxRecDepth 100000 in
theorem dX9_tick_192 : decode cX9_tick 192 = .ok (.aload_n 0, 1) := by decide +kernel
set_option maxRecDepth 100000 in
theorem dX9_tick_193 : decode cX9_tick 193 = .ok (.iload_n 3, 1) := by decide +kernel
set_option maxRecDepth 100000 in
theorem dX9_tick_194 : decode cX9_tick 194 = .ok (.ifCond .eq 12, 3) := by decide +kernel
set_option maxRecDepth 100000 in
theorem dX9_tick_197 : decode cX9_tick 197 = .ok (.iload 5, 2) := by decide +kernel
set_option maxRecDepth 100000 in
theorem dX9_tick_199 : decode cX9_tick 199 = .ok (.aload_n 0, 1) := by decide +kernel
set_option maxRecDepth 100000 in
theorem dX9_tick_200 : decode cX9_tick 200 = .ok (.getfield 255, 3) := by decide +kernel
set_option maxRecDepth 100000 in
theorem dX9_tick_203 : decode cX9_tick 203 = .ok (.if_icmp .le 8, 3) := by decide +kernel
set_option maxRecDepth 100000 in
theorem dX9_tick_206 : decode cX9_tick 206 = .ok (.iload 5, 2) := by decide +kernel
set_option maxRecDepth 100000 in
theorem dX9_tick_208 : decode cX9_tick 208 = .ok (.goto 7, 3) := by decide +kernel
set_option maxRecDepth 100000 in
theorem dX9_tick_211 : decode cX9_tick 211 = .ok (.aload_n 0, 1) := by decide +kernel
set_option maxRecDepth 100000 in
theorem dX9_tick_212 : decode cX9_tick 212 = .ok (.getfield 255, 3) := by decide +kernel
set_option maxRecDepth 100000 in
theorem dX9_tick_215 : decode cX9_tick 215 = .ok (.putfield 255, 3) := by decide +kernel
set_option maxRecDepth 100000 in
theorem dX9_tick_218 : decode cX9_tick 218 = .ok (.aload_n 0, 1) := by decide +kernel
set_option maxRecDepth 100000 in
theorem dX9_tick_219 : decode cX9_tick 219 = .ok (.getfield 249, 3) := by decide +kernel
set_option maxRecDepth 100000 in
theorem dX9_tick_222 : decode cX9_tick 222 = .ok (.aload_n 0, 1) := by decide +kernel
set_option maxRecDepth 100000 in
theorem dX9_tick_223 : decode cX9_tick 223 = .ok (.getfield 22, 3) := by decide +kernel
set_option maxRecDepth 100000 in
theorem dX9_tick_226 : decode cX9_tick 226 = .ok (.iload_n 1, 1) := by decide +kernel
set_option maxRecDepth 100000 in
theorem dX9_tick_227 : decode cX9_tick 227 = .ok (.iaload, 1) := by decide +kernel
set_option maxRecDepth 100000 in
theorem dX9_tick_228 : decode cX9_tick 228 = .ok (.idiv, 1) := by decide +kernel
set_option maxRecDepth 100000 in
theorem dX9_tick_229 : decode cX9_tick 229 = .ok (.istore 6, 2) := by decide +kernel
set_option maxRecDepth 100000 in
theorem dX9_tick_231 : decode cX9_tick 231 = .ok (.aload_n 0, 1) := by decide +kernel
set_option maxRecDepth 100000 in
theorem dX9_tick_232 : decode cX9_tick 232 = .ok (.getfield 105, 3) := by decide +kernel
set_option maxRecDepth 100000 in
theorem dX9_tick_235 : decode cX9_tick 235 = .ok (.iload_n 3, 1) := by decide +kernel
set_option maxRecDepth 100000 in
theorem dX9_tick_236 : decode cX9_tick 236 = .ok (.iload 6, 2) := by decide +kernel
set_option maxRecDepth 100000 in
theorem dX9_tick_238 : decode cX9_tick 238 = .ok (.iastore, 1) := by decide +kernel
set_option maxRecDepth 100000 in
theorem dX9_tick_239 : decode cX9_tick 239 = .ok (.iconst 0, 1) := by decide +kernel
set_option maxRecDepth 100000 in
theorem dX9_tick_240 : decode cX9_tick 240 = .ok (.istore 7, 2) := by decide +kernel
set_option maxRecDepth 100000 in
theorem dX9_tick_242 : decode cX9_tick 242 = .ok (.iload 7, 2) := by decide +kernel
set_option maxRecDepth 100000 in
theorem dX9_tick_244 : decode cX9_tick 244 = .ok (.aload_n 0, 1) := by decide +kernel
set_option maxRecDepth 100000 in
theorem dX9_tick_245 : decode cX9_tick 245 = .ok (.getfield 31, 3) := by decide +kernel
set_option maxRecDepth 100000 in
theorem dX9_tick_248 : decode cX9_tick 248 = .ok (.iload_n 1, 1) := by decide +kernel
set_option maxRecDepth 100000 in
theorem dX9_tick_249 : decode cX9_tick 249 = .ok (.iaload, 1) := by decide +kernel
set_option maxRecDepth 100000 in
theorem dX9_tick_250 : decode cX9_tick 250 = .ok (.if_icmp .ge 56, 3) := by decide +kernel
set_option maxRecDepth 100000 in
theorem dX9_tick_253 : decode cX9_tick 253 = .ok (.aload_n 0, 1) := by decide +kernel
set_option maxRecDepth 100000 in
theorem dX9_tick_254 : decode cX9_tick 254 = .ok (.getfield 102, 3) := by decide +kernel
set_option maxRecDepth 100000 in
theorem dX9_tick_257 : decode cX9_tick 257 = .ok (.iload 7, 2) := by decide +kernel
set_option maxRecDepth 100000 in
theorem dX9_tick_259 : decode cX9_tick 259 = .ok (.iaload, 1) := by decide +kernel
set_option maxRecDepth 100000 in
theorem dX9_tick_260 : decode cX9_tick 260 = .ok (.bipush 96, 2) := by decide +kernel
set_option maxRecDepth 100000 in
theorem dX9_tick_262 : decode cX9_tick 262 = .ok (.if_icmp .ne 38, 3) := by decide +kernel
set_option maxRecDepth 100000 in
theorem dX9_tick_265 : decode cX9_tick 265 = .ok (.iload 6, 2) := by decide +kernel
set_option maxRecDepth 100000 in
theorem dX9_tick_267 : decode cX9_tick 267 = .ok (.aload_n 0, 1) := by decide +kernel
set_option maxRecDepth 100000 in
theorem dX9_tick_268 : decode cX9_tick 268 = .ok (.getfield 34, 3) := by decide +kernel
set_option maxRecDepth 100000 in
theorem dX9_tick_271 : decode cX9_tick 271 = .ok (.bipush 12, 2) := by decide +kernel
set_option maxRecDepth 100000 in
theorem dX9_tick_273 : decode cX9_tick 273 = .ok (.iload_n 1, 1) := by decide +kernel
set_option maxRecDepth 100000 in
theorem dX9_tick_274 : decode cX9_tick 274 = .ok (.imul, 1) := by decide +kernel
set_option maxRecDepth 100000 in
theorem dX9_tick_275 : decode cX9_tick 275 = .ok (.iload 7, 2) := by decide +kernel
set_option maxRecDepth 100000 in
theorem dX9_tick_277 : decode cX9_tick 277 = .ok (.iadd, 1) := by decide +kernel
set_option maxRecDepth 100000 in
theorem dX9_tick_278 : decode cX9_tick 278 = .ok (.iaload, 1) := by decide +kernel
set_option maxRecDepth 100000 in
theorem dX9_tick_279 : decode cX9_tick 279 = .ok (.if_icmp .lt 21, 3) := by decide +kernel
set_option maxRecDepth 100000 in
theorem dX9_tick_282 : decode cX9_tick 282 = .ok (.aload_n 0, 1) := by decide +kernel
set_option maxRecDepth 100000 in
theorem dX9_tick_283 : decode cX9_tick 283 = .ok (.getfield 102, 3) := by decide +kernel
set_option maxRecDepth 100000 in
theorem dX9_tick_286 : decode cX9_tick 286 = .ok (.iload 7, 2) := by decide +kernel
set_option maxRecDepth 100000 in
theorem dX9_tick_288 : decode cX9_tick 288 = .ok (.iload_n 3, 1) := by decide +kernel
set_option maxRecDepth 100000 in
theorem dX9_tick_289 : decode cX9_tick 289 = .ok (.iastore, 1) := by decide +kernel
set_option maxRecDepth 100000 in
theorem dX9_tick_290 : decode cX9_tick 290 = .ok (.aload_n 0, 1) := by decide +kernel
set_option maxRecDepth 100000 in
theorem dX9_tick_291 : decode cX9_tick 291 = .ok (.dup, 1) := by decide +kernel
set_option maxRecDepth 100000 in
theorem dX9_tick_292 : decode cX9_tick 292 = .ok (.getfield 258, 3) := by decide +kernel
set_option maxRecDepth 100000 in
theorem dX9_tick_295 : decode cX9_tick 295 = .ok (.iconst 1, 1) := by decide +kernel
set_option maxRecDepth 100000 in
theorem dX9_tick_296 : decode cX9_tick 296 = .ok (.iadd, 1) := by decide +kernel
set_option maxRecDepth 100000 in
theorem dX9_tick_297 : decode cX9_tick 297 = .ok (.putfield 258, 3) := by decide +kernel
set_option maxRecDepth 100000 in
theorem dX9_tick_300 : decode cX9_tick 300 = .ok (.iinc 7 1, 3) := by decide +kernel
set_option maxRecDepth 100000 in
theorem dX9_tick_303 : decode cX9_tick 303 = .ok (.goto (-61), 3) := by decide +kernel
set_option maxRecDepth 100000 in
theorem dX9_tick_306 : decode cX9_tick 306 = .ok (.aload_n 0, 1) := by decide +kernel
set_option maxRecDepth 100000 in
theorem dX9_tick_307 : decode cX9_tick 307 = .ok (.getfield 224, 3) := by decide +kernel
set_option maxRecDepth 100000 in
theorem dX9_tick_310 : decode cX9_tick 310 = .ok (.iconst 3, 1) := by decide +kernel
set_option maxRecDepth 100000 in
theorem dX9_tick_311 : decode cX9_tick 311 = .ok (.if_icmp .ne 67, 3) := by decide +kernel
set_option maxRecDepth 100000 in
theorem dX9_tick_314 : decode cX9_tick 314 = .ok (.iload_n 3, 1) := by decide +kernel
set_option maxRecDepth 100000 in
theorem dX9_tick_315 : decode cX9_tick 315 = .ok (.aload_n 0, 1) := by decide +kernel
set_option maxRecDepth 100000 in
theorem dX9_tick_316 : decode cX9_tick 316 = .ok (.getfield 233, 3) := by decide +kernel
set_option maxRecDepth 100000 in
theorem dX9_tick_319 : decode cX9_tick 319 = .ok (.if_icmp .lt 59, 3) := by decide +kernel
set_option maxRecDepth 100000 in
theorem dX9_tick_322 : decode cX9_tick 322 = .ok (.aload_n 0, 1) := by decide +kernel
set_option maxRecDepth 100000 in
theorem dX9_tick_323 : decode cX9_tick 323 = .ok (.getfield 227, 3) := by decide +kernel
set_option maxRecDepth 100000 in
theorem dX9_tick_326 : decode cX9_tick 326 = .ok (.aload_n 0, 1) := by decide +kernel
set_option maxRecDepth 100000 in
theorem dX9_tick_327 : decode cX9_tick 327 = .ok (.getfield 7, 3) := by decide +kernel
set_option maxRecDepth 100000 in
theorem dX9_tick_330 : decode cX9_tick 330 = .ok (.iload_n 1, 1) := by decide +kernel
set_option maxRecDepth 100000 in
theorem dX9_tick_331 : decode cX9_tick 331 = .ok (.iaload, 1) := by decide +kernel
set_option maxRecDepth 100000 in
theorem dX9_tick_332 : decode cX9_tick 332 = .ok (.if_icmp .ge 46, 3) := by decide +kernel
set_option maxRecDepth 100000 in
theorem dX9_tick_335 : decode cX9_tick 335 = .ok (.aload_n 0, 1) := by decide +kernel
set_option maxRecDepth 100000 in
theorem dX9_tick_336 : decode cX9_tick 336 = .ok (.getfield 230, 3) := by decide +kernel
set_option maxRecDepth 100000 in
theorem dX9_tick_339 : decode cX9_tick 339 = .ok (.aload_n 0, 1) := by decide +kernel
set_option maxRecDepth 100000 in
theorem dX9_tick_340 : decode cX9_tick 340 = .ok (.getfield 99, 3) := by decide +kernel
set_option maxRecDepth 100000 in
theorem dX9_tick_343 : decode cX9_tick 343 = .ok (.aload_n 0, 1) := by decide +kernel
set_option maxRecDepth 100000 in
theorem dX9_tick_344 : decode cX9_tick 344 = .ok (.getfield 227, 3) := by decide +kernel
set_option maxRecDepth 100000 in
theorem dX9_tick_347 : decode cX9_tick 347 = .ok (.iaload, 1) := by decide +kernel
set_option maxRecDepth 100000 in
theorem dX9_tick_348 : decode cX9_tick 348 = .ok (.invokestatic 239, 3) := by decide +kernel
set_option maxRecDepth 100000 in
theorem dX9_tick_351 : decode cX9_tick 351 = .ok (.istore 7, 2) := by decide +kernel
set_option maxRecDepth 100000 in
theorem dX9_tick_353 : decode cX9_tick 353 = .ok (.aload_n 0, 1) := by decide +kernel
set_option maxRecDepth 100000 in
theorem dX9_tick_354 : decode cX9_tick 354 = .ok (.getfield 99, 3) := by decide +kernel
set_option maxRecDepth 100000 in
theorem dX9_tick_357 : decode cX9_tick 357 = .ok (.aload_n 0, 1) := by decide +kernel
set_option maxRecDepth 100000 in
theorem dX9_tick_358 : decode cX9_tick 358 = .ok (.getfield 227, 3) := by decide +kernel
set_option maxRecDepth 100000 in
theorem dX9_tick_361 : decode cX9_tick 361 = .ok (.dup2, 1) := by decide +kernel
set_option maxRecDepth 100000 in
theorem dX9_tick_362 : decode cX9_tick 362 = .ok (.iaload, 1) := by decide +kernel
set_option maxRecDepth 100000 in
theorem dX9_tick_363 : decode cX9_tick 363 = .ok (.iload 7, 2) := by decide +kernel
set_option maxRecDepth 100000 in
theorem dX9_tick_365 : decode cX9_tick 365 = .ok (.isub, 1) := by decide +kernel
set_option maxRecDepth 100000 in
theorem dX9_tick_366 : decode cX9_tick 366 = .ok (.iastore, 1) := by decide +kernel
set_option maxRecDepth 100000 in
theorem dX9_tick_367 : decode cX9_tick 367 = .ok (.aload_n 0, 1) := by decide +kernel
set_option maxRecDepth 100000 in
theorem dX9_tick_368 : decode cX9_tick 368 = .ok (.dup, 1) := by decide +kernel
set_option maxRecDepth 100000 in
theorem dX9_tick_369 : decode cX9_tick 369 = .ok (.getfield 261, 3) := by decide +kernel
set_option maxRecDepth 100000 in
theorem dX9_tick_372 : decode cX9_tick 372 = .ok (.iload 7, 2) := by decide +kernel
set_option maxRecDepth 100000 in
theorem dX9_tick_374 : decode cX9_tick 374 = .ok (.iadd, 1) := by decide +kernel
set_option maxRecDepth 100000 in
theorem dX9_tick_375 : decode cX9_tick 375 = .ok (.putfield 261, 3) := by decide +kernel
set_option maxRecDepth 100000 in
theorem dX9_tick_378 : decode cX9_tick 378 = .ok (.aload_n 0, 1) := by decide +kernel
set_option maxRecDepth 100000 in
theorem dX9_tick_379 : decode cX9_tick 379 = .ok (.getfield 221, 3) := by decide +kernel
set_option maxRecDepth 100000 in
theorem dX9_tick_382 : decode cX9_tick 382 = .ok (.ifCond .eq 42, 3) := by decide +kernel
set_option maxRecDepth 100000 in
theorem dX9_tick_385 : decode cX9_tick 385 = .ok (.iload 6, 2) := by decide +kernel
set_option maxRecDepth 100000 in
theorem dX9_tick_387 : decode cX9_tick 387 = .ok (.aload_n 0, 1) := by decide +kernel
set_option maxRecDepth 100000 in
theorem dX9_tick_388 : decode cX9_tick 388 = .ok (.getfield 25, 3) := by decide +kernel
set_option maxRecDepth 100000 in
theorem dX9_tick_391 : decode cX9_tick 391 = .ok (.iload_n 1, 1) := by decide +kernel
set_option maxRecDepth 100000 in
theorem dX9_tick_392 : decode cX9_tick 392 = .ok (.iaload, 1) := by decide +kernel
set_option maxRecDepth 100000 in
theorem dX9_tick_393 : decode cX9_tick 393 = .ok (.if_icmp .lt 31, 3) := by decide +kernel
set_option maxRecDepth 100000 in
theorem dX9_tick_396 : decode cX9_tick 396 = .ok (.aload_n 0, 1) := by decide +kernel
set_option maxRecDepth 100000 in
theorem dX9_tick_397 : decode cX9_tick 397 = .ok (.getfield 258, 3) := by decide +kernel
set_option maxRecDepth 100000 in
theorem dX9_tick_400 : decode cX9_tick 400 = .ok (.aload_n 0, 1) := by decide +kernel
set_option maxRecDepth 100000 in
theorem dX9_tick_401 : decode cX9_tick 401 = .ok (.getfield 31, 3) := by decide +kernel
set_option maxRecDepth 100000 in
theorem dX9_tick_404 : decode cX9_tick 404 = .ok (.iload_n 1, 1) := by decide +kernel
set_option maxRecDepth 100000 in
theorem dX9_tick_405 : decode cX9_tick 405 = .ok (.iaload, 1) := by decide +kernel
set_option maxRecDepth 100000 in
theorem dX9_tick_406 : decode cX9_tick 406 = .ok (.if_icmp .ne 18, 3) := by decide +kernel
set_option maxRecDepth 100000 in
theorem dX9_tick_409 : decode cX9_tick 409 = .ok (.aload_n 0, 1) := by decide +kernel
set_option maxRecDepth 100000 in
theorem dX9_tick_410 : decode cX9_tick 410 = .ok (.iconst 0, 1) := by decide +kernel
set_option maxRecDepth 100000 in
theorem dX9_tick_411 : decode cX9_tick 411 = .ok (.putfield 249, 3) := by decide +kernel
set_option maxRecDepth 100000 in
theorem dX9_tick_414 : decode cX9_tick 414 = .ok (.aload_n 0, 1) := by decide +kernel
set_option maxRecDepth 100000 in
theorem dX9_tick_415 : decode cX9_tick 415 = .ok (.dup, 1) := by decide +kernel
set_option maxRecDepth 100000 in
theorem dX9_tick_416 : decode cX9_tick 416 = .ok (.getfield 264, 3) := by decide +kernel
set_option maxRecDepth 100000 in
theorem dX9_tick_419 : decode cX9_tick 419 = .ok (.iconst 1, 1) := by decide +kernel
set_option maxRecDepth 100000 in
theorem dX9_tick_420 : decode cX9_tick 420 = .ok (.iadd, 1) := by decide +kernel
set_option maxRecDepth 100000 in
theorem dX9_tick_421 : decode cX9_tick 421 = .ok (.putfield 264, 3) := by decide +kernel
set_option maxRecDepth 100000 in
theorem dX9_tick_424 : decode cX9_tick 424 = .ok (.return_, 1) := by decide +kernel
set_option maxRecDepth 100000 in
theorem dX9_run_0 : decode cX9_run 0 = .ok (.iconst 0, 1) := by decide +kernel
set_option maxRecDepth 100000 in
theorem dX9_run_1 : decode cX9_run 1 = .ok (.istore 4, 2) := by decide +kernel
set_option maxRecDepth 100000 in
theorem dX9_run_3 : decode cX9_run 3 = .ok (.iload 4, 2) := by decide +kernel
set_option maxRecDepth 100000 in
theorem dX9_run_5 : decode cX9_run 5 = .ok (.aload_n 0, 1) := by decide +kernel
set_option maxRecDepth 100000 in
theorem dX9_run_6 : decode cX9_run 6 = .ok (.getfield 7, 3) := by decide +kernel
set_option maxRecDepth 100000 in
theorem dX9_run_9 : decode cX9_run 9 = .ok (.iload_n 1, 1) := by decide +kernel
set_option maxRecDepth 100000 in
theorem dX9_run_10 : decode cX9_run 10 = .ok (.iaload, 1) := by decide +kernel
set_option maxRecDepth 100000 in
theorem dX9_run_11 : decode cX9_run 11 = .ok (.if_icmp .ge 39, 3) := by decide +kernel
set_option maxRecDepth 100000 in
theorem dX9_run_14 : decode cX9_run 14 = .ok (.aload_n 0, 1) := by decide +kernel
set_option maxRecDepth 100000 in
theorem dX9_run_15 : decode cX9_run 15 = .ok (.getfield 99, 3) := by decide +kernel
set_option maxRecDepth 100000 in
theorem dX9_run_18 : decode cX9_run 18 = .ok (.iload 4, 2) := by decide +kernel
set_option maxRecDepth 100000 in
theorem dX9_run_20 : decode cX9_run 20 = .ok (.aload_n 0, 1) := by decide +kernel
set_option maxRecDepth 100000 in
theorem dX9_run_21 : decode cX9_run 21 = .ok (.getfield 13, 3) := by decide +kernel
set_option maxRecDepth 100000 in
theorem dX9_run_24 : decode cX9_run 24 = .ok (.iconst 3, 1) := by decide +kernel
set_option maxRecDepth 100000 in
theorem dX9_run_25 : decode cX9_run 25 = .ok (.iload_n 1, 1) := by decide +kernel
set_option maxRecDepth 100000 in
theorem dX9_run_26 : decode cX9_run 26 = .ok (.imul, 1) := by decide +kernel
set_option maxRecDepth 100000 in
theorem dX9_run_27 : decode cX9_run 27 = .ok (.iload 4, 2) := by decide +kernel
set_option maxRecDepth 100000 in
theorem dX9_run_29 : decode cX9_run 29 = .ok (.iadd, 1) := by decide +kernel
set_option maxRecDepth 100000 in
theorem dX9_run_30 : decode cX9_run 30 = .ok (.iaload, 1) := by decide +kernel
set_option maxRecDepth 100000 in
theorem dX9_run_31 : decode cX9_run 31 = .ok (.aload_n 0, 1) := by decide +kernel
set_option maxRecDepth 100000 in
theorem dX9_run_32 : decode cX9_run 32 = .ok (.getfield 16, 3) := by decide +kernel
set_option maxRecDepth 100000 in
theorem dX9_run_35 : decode cX9_run 35 = .ok (.iconst 3, 1) := by decide +kernel
set_option maxRecDepth 100000 in
theorem dX9_run_36 : decode cX9_run 36 = .ok (.iload_n 1, 1) := by decide +kernel
set_option maxRecDepth 100000 in
theorem dX9_run_37 : decode cX9_run 37 = .ok (.imul, 1) := by decide +kernel
set_option maxRecDepth 100000 in
theorem dX9_run_38 : decode cX9_run 38 = .ok (.iload 4, 2) := by decide +kernel
set_option maxRecDepth 100000 in
theorem dX9_run_40 : decode cX9_run 40 = .ok (.iadd, 1) := by decide +kernel
set_option maxRecDepth 100000 in
theorem dX9_run_41 : decode cX9_run 41 = .ok (.iaload, 1) := by decide +kernel
set_option maxRecDepth 100000 in
theorem dX9_run_42 : decode cX9_run 42 = .ok (.imul, 1) := by decide +kernel
set_option maxRecDepth 100000 in
theorem dX9_run_43 : decode cX9_run 43 = .ok (.iastore, 1) := by decide +kernel
set_option maxRecDepth 100000 in
theorem dX9_run_44 : decode cX9_run 44 = .ok (.iinc 4 1, 3) := by decide +kernel
set_option maxRecDepth 100000 in
theorem dX9_run_47 : decode cX9_run 47 = .ok (.goto (-44), 3) := by decide +kernel
set_option maxRecDepth 100000 in
theorem dX9_run_50 : decode cX9_run 50 = .ok (.aload_n 0, 1) := by decide +kernel
set_option maxRecDepth 100000 in
theorem dX9_run_51 : decode cX9_run 51 = .ok (.iconst 0, 1) := by decide +kernel
set_option maxRecDepth 100000 in
theorem dX9_run_52 : decode cX9_run 52 = .ok (.putfield 249, 3) := by decide +kernel
set_option maxRecDepth 100000 in
theorem dX9_run_55 : decode cX9_run 55 = .ok (.aload_n 0, 1) := by decide +kernel
set_option maxRecDepth 100000 in
theorem dX9_run_56 : decode cX9_run 56 = .ok (.iconst 0, 1) := by decide +kernel
set_option maxRecDepth 100000 in
theorem dX9_run_57 : decode cX9_run 57 = .ok (.putfield 236, 3) := by decide +kernel
set_option maxRecDepth 100000 in
theorem dX9_run_60 : decode cX9_run 60 = .ok (.aload_n 0, 1) := by decide +kernel
set_option maxRecDepth 100000 in
theorem dX9_run_61 : decode cX9_run 61 = .ok (.iconst 0, 1) := by decide +kernel
set_option maxRecDepth 100000 in
theorem dX9_run_62 : decode cX9_run 62 = .ok (.putfield 261, 3) := by decide +kernel
set_option maxRecDepth 100000 in
theorem dX9_run_65 : decode cX9_run 65 = .ok (.aload_n 0, 1) := by decide +kernel
set_option maxRecDepth 100000 in
theorem dX9_run_66 : decode cX9_run 66 = .ok (.iconst 0, 1) := by decide +kernel
set_option maxRecDepth 100000 in
theorem dX9_run_67 : decode cX9_run 67 = .ok (.putfield 264, 3) := by decide +kernel
set_option maxRecDepth 100000 in
theorem dX9_run_70 : decode cX9_run 70 = .ok (.aload_n 0, 1) := by decide +kernel
set_option maxRecDepth 100000 in
theorem dX9_run_71 : decode cX9_run 71 = .ok (.iconst 0, 1) := by decide +kernel
set_option maxRecDepth 100000 in
theorem dX9_run_72 : decode cX9_run 72 = .ok (.putfield 258, 3) := by decide +kernel
set_option maxRecDepth 100000 in
theorem dX9_run_75 : decode cX9_run 75 = .ok (.iconst 0, 1) := by decide +kernel
set_option maxRecDepth 100000 in
theorem dX9_run_76 : decode cX9_run 76 = .ok (.istore 4, 2) := by decide +kernel
set_option maxRecDepth 100000 in
theorem dX9_run_78 : decode cX9_run 78 = .ok (.iload 4, 2) := by decide +kernel
set_option maxRecDepth 100000 in
theorem dX9_run_80 : decode cX9_run 80 = .ok (.bipush 12, 2) := by decide +kernel
set_option maxRecDepth 100000 in
theorem dX9_run_82 : decode cX9_run 82 = .ok (.if_icmp .ge 18, 3) := by decide +kernel
set_option maxRecDepth 100000 in
theorem dX9_run_85 : decode cX9_run 85 = .ok (.aload_n 0, 1) := by decide +kernel
set_option maxRecDepth 100000 in
theorem dX9_run_86 : decode cX9_run 86 = .ok (.getfield 102, 3) := by decide +kernel
set_option maxRecDepth 100000 in
theorem dX9_run_89 : decode cX9_run 89 = .ok (.iload 4, 2) := by decide +kernel
set_option maxRecDepth 100000 in
theorem dX9_run_91 : decode cX9_run 91 = .ok (.bipush 96, 2) := by decide +kernel
set_option maxRecDepth 100000 in
theorem dX9_run_93 : decode cX9_run 93 = .ok (.iastore, 1) := by decide +kernel
set_option maxRecDepth 100000 in
theorem dX9_run_94 : decode cX9_run 94 = .ok (.iinc 4 1, 3) := by decide +kernel
set_option maxRecDepth 100000 in
theorem dX9_run_97 : decode cX9_run 97 = .ok (.goto (-19), 3) := by decide +kernel
set_option maxRecDepth 100000 in
theorem dX9_run_100 : decode cX9_run 100 = .ok (.iconst 0, 1) := by decide +kernel
set_option maxRecDepth 100000 in
theorem dX9_run_101 : decode cX9_run 101 = .ok (.istore 4, 2) := by decide +kernel
set_option maxRecDepth 100000 in
theorem dX9_run_103 : decode cX9_run 103 = .ok (.iload 4, 2) := by decide +kernel
set_option maxRecDepth 100000 in
theorem dX9_run_105 : decode cX9_run 105 = .ok (.iload_n 3, 1) := by decide +kernel
set_option maxRecDepth 100000 in
theorem dX9_run_106 : decode cX9_run 106 = .ok (.if_icmp .gt 17, 3) := by decide +kernel
set_option maxRecDepth 100000 in
theorem dX9_run_109 : decode cX9_run 109 = .ok (.aload_n 0, 1) := by decide +kernel
set_option maxRecDepth 100000 in
theorem dX9_run_110 : decode cX9_run 110 = .ok (.iload_n 1, 1) := by decide +kernel
set_option maxRecDepth 100000 in
theorem dX9_run_111 : decode cX9_run 111 = .ok (.iload_n 2, 1) := by decide +kernel
set_option maxRecDepth 100000 in
theorem dX9_run_112 : decode cX9_run 112 = .ok (.iload 4, 2) := by decide +kernel
set_option maxRecDepth 100000 in
theorem dX9_run_114 : decode cX9_run 114 = .ok (.invokevirtual 267, 3) := by decide +kernel
set_option maxRecDepth 100000 in
theorem dX9_run_117 : decode cX9_run 117 = .ok (.iinc 4 1, 3) := by decide +kernel
set_option maxRecDepth 100000 in
theorem dX9_run_120 : decode cX9_run 120 = .ok (.goto (-17), 3) := by decide +kernel
set_option maxRecDepth 100000 in
theorem dX9_run_123 : decode cX9_run 123 = .ok (.return_, 1) := by decide +kernel
set_option maxRecDepth 100000 in
theorem dX9_runAll_0 : decode cX9_runAll 0 = .ok (.aload_n 0, 1) := by decide +kernel
set_option maxRecDepth 100000 in
theorem dX9_runAll_1 : decode cX9_runAll 1 = .ok (.iload_n 1, 1) := by decide +kernel
set_option maxRecDepth 100000 in
theorem dX9_runAll_2 : decode cX9_runAll 2 = .ok (.iload_n 3, 1) := by decide +kernel
set_option maxRecDepth 100000 in
theorem dX9_runAll_3 : decode cX9_runAll 3 = .ok (.invokevirtual 270, 3) := by decide +kernel
set_option maxRecDepth 100000 in
theorem dX9_runAll_6 : decode cX9_runAll 6 = .ok (.aload_n 0, 1) := by decide +kernel
set_option maxRecDepth 100000 in
theorem dX9_runAll_7 : decode cX9_runAll 7 = .ok (.iload_n 1, 1) := by decide +kernel
set_option maxRecDepth 100000 in
theorem dX9_runAll_8 : decode cX9_runAll 8 = .ok (.iload_n 2, 1) := by decide +kernel
set_option maxRecDepth 100000 in
theorem dX9_runAll_9 : decode cX9_runAll 9 = .ok (.bipush 95, 2) := by decide +kernel
set_option maxRecDepth 100000 in
theorem dX9_runAll_11 : decode cX9_runAll 11 = .ok (.invokevirtual 274, 3) := by decide +kernel
set_option maxRecDepth 100000 in
theorem dX9_runAll_14 : decode cX9_runAll 14 = .ok (.return_, 1) := by decide +kernel
set_option maxRecDepth 100000 in
theorem dX9_isRun_0 : decode cX9_isRun 0 = .ok (.aload_n 0, 1) := by decide +kernel
set_option maxRecDepth 100000 in
theorem dX9_isRun_1 : decode cX9_isRun 1 = .ok (.iload_n 1, 1) := by decide +kernel
set_option maxRecDepth 100000 in
theorem dX9_isRun_2 : decode cX9_isRun 2 = .ok (.invokevirtual 197, 3) := by decide +kernel
set_option maxRecDepth 100000 in
theorem dX9_isRun_5 : decode cX9_isRun 5 = .ok (.ifCond .eq 27, 3) := by decide +kernel
set_option maxRecDepth 100000 in
theorem dX9_isRun_8 : decode cX9_isRun 8 = .ok (.iload_n 2, 1) := by decide +kernel
set_option maxRecDepth 100000 in
theorem dX9_isRun_9 : decode cX9_isRun 9 = .ok (.invokestatic 203, 3) := by decide +kernel
set_option maxRecDepth 100000 in
theorem dX9_isRun_12 : decode cX9_isRun 12 = .ok (.ifCond .eq 20, 3) := by decide +kernel
set_option maxRecDepth 100000 in
theorem dX9_isRun_15 : decode cX9_isRun 15 = .ok (.iload_n 3, 1) := by decide +kernel
set_option maxRecDepth 100000 in
theorem dX9_isRun_16 : decode cX9_isRun 16 = .ok (.iconst (-1), 1) := by decide +kernel
set_option maxRecDepth 100000 in
theorem dX9_isRun_17 : decode cX9_isRun 17 = .ok (.if_icmp .eq 11, 3) := by decide +kernel
set_option maxRecDepth 100000 in
theorem dX9_isRun_20 : decode cX9_isRun 20 = .ok (.aload_n 0, 1) := by decide +kernel
set_option maxRecDepth 100000 in
theorem dX9_isRun_21 : decode cX9_isRun 21 = .ok (.iload_n 3, 1) := by decide +kernel
set_option maxRecDepth 100000 in
theorem dX9_isRun_22 : decode cX9_isRun 22 = .ok (.invokevirtual 206, 3) := by decide +kernel
set_option maxRecDepth 100000 in
theorem dX9_isRun_25 : decode cX9_isRun 25 = .ok (.ifCond .eq 7, 3) := by decide +kernel
set_option maxRecDepth 100000 in
theorem dX9_isRun_28 : decode cX9_isRun 28 = .ok (.iconst 1, 1) := by decide +kernel
set_option maxRecDepth 100000 in
theorem dX9_isRun_29 : decode cX9_isRun 29 = .ok (.goto 4, 3) := by decide +kernel
set_option maxRecDepth 100000 in
theorem dX9_isRun_32 : decode cX9_isRun 32 = .ok (.iconst 0, 1) := by decide +kernel
set_option maxRecDepth 100000 in
theorem dX9_isRun_33 : decode cX9_isRun 33 = .ok (.ireturn, 1) := by decide +kernel
set_option maxRecDepth 100000 in
theorem dX9_errorOf_0 : decode cX9_errorOf 0 = .ok (.aload_n 0, 1) := by decide +kernel
set_option maxRecDepth 100000 in
theorem dX9_errorOf_1 : decode cX9_errorOf 1 = .ok (.getfield 102, 3) := by decide +kernel
set_option maxRecDepth 100000 in
theorem dX9_errorOf_4 : decode cX9_errorOf 4 = .ok (.iload_n 3, 1) := by decide +kernel
set_option maxRecDepth 100000 in
theorem dX9_errorOf_5 : decode cX9_errorOf 5 = .ok (.iaload, 1) := by decide +kernel
set_option maxRecDepth 100000 in
theorem dX9_errorOf_6 : decode cX9_errorOf 6 = .ok (.iload_n 3, 1) := by decide +kernel
set_option maxRecDepth 100000 in
theorem dX9_errorOf_7 : decode cX9_errorOf 7 = .ok (.iconst 1, 1) := by decide +kernel
set_option maxRecDepth 100000 in
theorem dX9_errorOf_8 : decode cX9_errorOf 8 = .ok (.iadd, 1) := by decide +kernel
set_option maxRecDepth 100000 in
theorem dX9_errorOf_9 : decode cX9_errorOf 9 = .ok (.aload_n 0, 1) := by decide +kernel
set_option maxRecDepth 100000 in
theorem dX9_errorOf_10 : decode cX9_errorOf 10 = .ok (.getfield 40, 3) := by decide +kernel
set_option maxRecDepth 100000 in
theorem dX9_errorOf_13 : decode cX9_errorOf 13 = .ok (.iload_n 2, 1) := by decide +kernel
set_option maxRecDepth 100000 in
theorem dX9_errorOf_14 : decode cX9_errorOf 14 = .ok (.iaload, 1) := by decide +kernel
set_option maxRecDepth 100000 in
theorem dX9_errorOf_15 : decode cX9_errorOf 15 = .ok (.imul, 1) := by decide +kernel
set_option maxRecDepth 100000 in
theorem dX9_errorOf_16 : decode cX9_errorOf 16 = .ok (.aload_n 0, 1) := by decide +kernel
set_option maxRecDepth 100000 in
theorem dX9_errorOf_17 : decode cX9_errorOf 17 = .ok (.getfield 31, 3) := by decide +kernel
set_option maxRecDepth 100000 in
theorem dX9_errorOf_20 : decode cX9_errorOf 20 = .ok (.iload_n 1, 1) := by decide +kernel
set_option maxRecDepth 100000 in
theorem dX9_errorOf_21 : decode cX9_errorOf 21 = .ok (.iaload, 1) := by decide +kernel
set_option maxRecDepth 100000 in
theorem dX9_errorOf_22 : decode cX9_errorOf 22 = .ok (.idiv, 1) := by decide +kernel
set_option maxRecDepth 100000 in
theorem dX9_errorOf_23 : decode cX9_errorOf 23 = .ok (.isub, 1) := by decide +kernel
set_option maxRecDepth 100000 in
theorem dX9_errorOf_24 : decode cX9_errorOf 24 = .ok (.ireturn, 1) := by decide +kernel
set_option maxRecDepth 100000 in
theorem dX9_asTick_0 : decode cX9_asTick 0 = .ok (.iload_n 0, 1) := by decide +kernel
set_option maxRecDepth 100000 in
theorem dX9_asTick_1 : decode cX9_asTick 1 = .ok (.bipush 96, 2) := by decide +kernel
set_option maxRecDepth 100000 in
theorem dX9_asTick_3 : decode cX9_asTick 3 = .ok (.if_icmp .ne 7, 3) := by decide +kernel
