theorem dX6_init_0 : decode cX6_init 0 = .ok (.aload_n 0, 1) := by decide +kernel
theorem dX6_init_1 : decode cX6_init 1 = .ok (.invokespecial 1, 3) := by decide +kernel
theorem dX6_init_4 : decode cX6_init 4 = .ok (.aload_n 0, 1) := by decide +kernel
theorem dX6_init_5 : decode cX6_init 5 = .ok (.sipush 325, 3) := by decide +kernel
theorem dX6_init_8 : decode cX6_init 8 = .ok (.newarray .int, 2) := by decide +kernel
theorem dX6_init_10 : decode cX6_init 10 = .ok (.putfield 7, 3) := by decide +kernel
theorem dX6_init_13 : decode cX6_init 13 = .ok (.aload_n 0, 1) := by decide +kernel
theorem dX6_init_14 : decode cX6_init 14 = .ok (.bipush 65, 2) := by decide +kernel
theorem dX6_init_16 : decode cX6_init 16 = .ok (.newarray .int, 2) := by decide +kernel
theorem dX6_init_18 : decode cX6_init 18 = .ok (.putfield 13, 3) := by decide +kernel
theorem dX6_init_21 : decode cX6_init 21 = .ok (.aload_n 0, 1) := by decide +kernel
theorem dX6_init_22 : decode cX6_init 22 = .ok (.sipush 160, 3) := by decide +kernel
theorem dX6_init_25 : decode cX6_init 25 = .ok (.newarray .int, 2) := by decide +kernel
theorem dX6_init_27 : decode cX6_init 27 = .ok (.putfield 16, 3) := by decide +kernel
theorem dX6_init_30 : decode cX6_init 30 = .ok (.aload_n 0, 1) := by decide +kernel
theorem dX6_init_31 : decode cX6_init 31 = .ok (.bipush 8, 2) := by decide +kernel
theorem dX6_init_33 : decode cX6_init 33 = .ok (.newarray .int, 2) := by decide +kernel
theorem dX6_init_35 : decode cX6_init 35 = .ok (.dup, 1) := by decide +kernel
theorem dX6_init_36 : decode cX6_init 36 = .ok (.iconst 0, 1) := by decide +kernel
theorem dX6_init_37 : decode cX6_init 37 = .ok (.iconst 0, 1) := by decide +kernel
theorem dX6_init_38 : decode cX6_init 38 = .ok (.iastore, 1) := by decide +kernel
theorem dX6_init_39 : decode cX6_init 39 = .ok (.dup, 1) := by decide +kernel
theorem dX6_init_40 : decode cX6_init 40 = .ok (.iconst 1, 1) := by decide +kernel
theorem dX6_init_41 : decode cX6_init 41 = .ok (.iconst 3, 1) := by decide +kernel
theorem dX6_init_42 : decode cX6_init 42 = .ok (.iastore, 1) := by decide +kernel
theorem dX6_init_43 : decode cX6_init 43 = .ok (.dup, 1) := by decide +kernel
theorem dX6_init_44 : decode cX6_init 44 = .ok (.iconst 2, 1) := by decide +kernel
theorem dX6_init_45 : decode cX6_init 45 = .ok (.bipush 8, 2) := by decide +kernel
theorem dX6_init_47 : decode cX6_init 47 = .ok (.iastore, 1) := by decide +kernel
theorem dX6_init_48 : decode cX6_init 48 = .ok (.dup, 1) := by decide +kernel
theorem dX6_init_49 : decode cX6_init 49 = .ok (.iconst 3, 1) := by decide +kernel
theorem dX6_init_50 : decode cX6_init 50 = .ok (.bipush 16, 2) := by decide +kernel
theorem dX6_init_52 : decode cX6_init 52 = .ok (.iastore, 1) := by decide +kernel
theorem dX6_init_53 : decode cX6_init 53 = .ok (.dup, 1) := by decide +kernel
theorem dX6_init_54 : decode cX6_init 54 = .ok (.iconst 4, 1) := by decide +kernel
theorem dX6_init_55 : decode cX6_init 55 = .ok (.bipush 20, 2) := by decide +kernel
theorem dX6_init_57 : decode cX6_init 57 = .ok (.iastore, 1) := by decide +kernel
theorem dX6_init_58 : decode cX6_init 58 = .ok (.dup, 1) := by decide +kernel
theorem dX6_init_59 : decode cX6_init 59 = .ok (.iconst 5, 1) := by decide +kernel
theorem dX6_init_60 : decode cX6_init 60 = .ok (.bipush 24, 2) := by decide +kernel
theorem dX6_init_62 : decode cX6_init 62 = .ok (.iastore, 1) := by decide +kernel
theorem dX6_init_63 : decode cX6_init 63 = .ok (.dup, 1) := by decide +kernel
theorem dX6_init_64 : decode cX6_init 64 = .ok (.bipush 6, 2) := by decide +kernel
theorem dX6_init_66 : decode cX6_init 66 = .ok (.bipush 28, 2) := by decide +kernel
theorem dX6_init_68 : decode cX6_init 68 = .ok (.iastore, 1) := by decide +kernel
theorem dX6_init_69 : decode cX6_init 69 = .ok (.dup, 1) := by decide +kernel
theorem dX6_init_70 : decode cX6_init 70 = .ok (.bipush 7, 2) := by decide +kernel
theorem dX6_init_72 : decode cX6_init 72 = .ok (.bipush 32, 2) := by decide +kernel
theorem dX6_init_74 : decode cX6_init 74 = .ok (.iastore, 1) := by decide +kernel
theorem dX6_init_75 : decode cX6_init 75 = .ok (.putfield 19, 3) := by decide +kernel
theorem dX6_init_78 : decode cX6_init 78 = .ok (.aload_n 0, 1) := by decide +kernel
theorem dX6_init_79 : decode cX6_init 79 = .ok (.bipush 32, 2) := by decide +kernel
theorem dX6_init_81 : decode cX6_init 81 = .ok (.newarray .int, 2) := by decide +kernel
theorem dX6_init_83 : decode cX6_init 83 = .ok (.dup, 1) := by decide +kernel
theorem dX6_init_84 : decode cX6_init 84 = .ok (.iconst 0, 1) := by decide +kernel
theorem dX6_init_85 : decode cX6_init 85 = .ok (.bipush 111, 2) := by decide +kernel
theorem dX6_init_87 : decode cX6_init 87 = .ok (.iastore, 1) := by decide +kernel
theorem dX6_init_88 : decode cX6_init 88 = .ok (.dup, 1) := by decide +kernel
theorem dX6_init_89 : decode cX6_init 89 = .ok (.iconst 1, 1) := by decide +kernel
theorem dX6_init_90 : decode cX6_init 90 = .ok (.bipush 119, 2) := by decide +kernel
theorem dX6_init_92 : decode cX6_init 92 = .ok (.iastore, 1) := by decide +kernel
theorem dX6_init_93 : decode cX6_init 93 = .ok (.dup, 1) := by decide +kernel
theorem dX6_init_94 : decode cX6_init 94 = .ok (.iconst 2, 1) := by decide +kernel
theorem dX6_init_95 : decode cX6_init 95 = .ok (.bipush 110, 2) := by decide +kernel
theorem dX6_init_97 : decode cX6_init 97 = .ok (.iastore, 1) := by decide +kernel
theorem dX6_init_98 : decode cX6_init 98 = .ok (.dup, 1) := by decide +kernel
theorem dX6_init_99 : decode cX6_init 99 = .ok (.iconst 3, 1) := by decide +kernel
theorem dX6_init_100 : decode cX6_init 100 = .ok (.bipush 104, 2) := by decide +kernel
theorem dX6_init_102 : decode cX6_init 102 = .ok (.iastore, 1) := by decide +kernel
theorem dX6_init_103 : decode cX6_init 103 = .ok (.dup, 1) := by decide +kernel
theorem dX6_init_104 : decode cX6_init 104 = .ok (.iconst 4, 1) := by decide +kernel
theorem dX6_init_105 : decode cX6_init 105 = .ok (.bipush 111, 2) := by decide +kernel
theorem dX6_init_107 : decode cX6_init 107 = .ok (.iastore, 1) := by decide +kernel
theorem dX6_init_108 : decode cX6_init 108 = .ok (.dup, 1) := by decide +kernel
theorem dX6_init_109 : decode cX6_init 109 = .ok (.iconst 5, 1) := by decide +kernel
theorem dX6_init_110 : decode cX6_init 110 = .ok (.bipush 117, 2) := by decide +kernel
theorem dX6_init_112 : decode cX6_init 112 = .ok (.iastore, 1) := by decide +kernel
theorem dX6_init_113 : decode cX6_init 113 = .ok (.dup, 1) := by decide +kernel
theorem dX6_init_114 : decode cX6_init 114 = .ok (.bipush 6, 2) := by decide +kernel
theorem dX6_init_116 : decode cX6_init 116 = .ok (.bipush 115, 2) := by decide +kernel
theorem dX6_init_118 : decode cX6_init 118 = .ok (.iastore, 1) := by decide +kernel
theorem dX6_init_119 : decode cX6_init 119 = .ok (.dup, 1) := by decide +kernel
theorem dX6_init_120 : decode cX6_init 120 = .ok (.bipush 7, 2) := by decide +kernel
theorem dX6_init_122 : decode cX6_init 122 = .ok (.bipush 101, 2) := by decide +kernel
theorem dX6_init_124 : decode cX6_init 124 = .ok (.iastore, 1) := by decide +kernel
theorem dX6_init_125 : decode cX6_init 125 = .ok (.dup, 1) := by decide +kernel
theorem dX6_init_126 : decode cX6_init 126 = .ok (.bipush 8, 2) := by decide +kernel
theorem dX6_init_128 : decode cX6_init 128 = .ok (.bipush 115, 2) := by decide +kernel
theorem dX6_init_130 : decode cX6_init 130 = .ok (.iastore, 1) := by decide +kernel
theorem dX6_init_131 : decode cX6_init 131 = .ok (.dup, 1) := by decide +kernel
theorem dX6_init_132 : decode cX6_init 132 = .ok (.bipush 9, 2) := by decide +kernel
theorem dX6_init_134 : decode cX6_init 134 = .ok (.bipush 116, 2) := by decide +kernel
theorem dX6_init_136 : decode cX6_init 136 = .ok (.iastore, 1) := by decide +kernel
theorem dX6_init_137 : decode cX6_init 137 = .ok (.dup, 1) := by decide +kernel
theorem dX6_init_138 : decode cX6_init 138 = .ok (.bipush 10, 2) := by decide +kernel
theorem dX6_init_140 : decode cX6_init 140 = .ok (.bipush 114, 2) := by decide +kernel
theorem dX6_init_142 : decode cX6_init 142 = .ok (.iastore, 1) := by decide +kernel
theorem dX6_init_143 : decode cX6_init 143 = .ok (.dup, 1) := by decide +kernel
theorem dX6_init_144 : decode cX6_init 144 = .ok (.bipush 11, 2) := by decide +kernel
theorem dX6_init_146 : decode cX6_init 146 = .ok (.bipush 97, 2) := by decide +kernel
theorem dX6_init_148 : decode cX6_init 148 = .ok (.iastore, 1) := by decide +kernel
theorem dX6_init_149 : decode cX6_init 149 = .ok (.dup, 1) := by decide +kernel
theorem dX6_init_150 : decode cX6_init 150 = .ok (.bipush 12, 2) := by decide +kernel
theorem dX6_init_152 : decode cX6_init 152 = .ok (.bipush 110, 2) := by decide +kernel
theorem dX6_init_154 : decode cX6_init 154 = .ok (.iastore, 1) := by decide +kernel
theorem dX6_init_155 : decode cX6_init 155 = .ok (.dup, 1) := by decide +kernel
theorem dX6_init_156 : decode cX6_init 156 = .ok (.bipush 13, 2) := by decide +kernel
theorem dX6_init_158 : decode cX6_init 158 = .ok (.bipush 103, 2) := by decide +kernel
theorem dX6_init_160 : decode cX6_init 160 = .ok (.iastore, 1) := by decide +kernel
theorem dX6_init_161 : decode cX6_init 161 = .ok (.dup, 1) := by decide +kernel
theorem dX6_init_162 : decode cX6_init 162 = .ok (.bipush 14, 2) := by decide +kernel
theorem dX6_init_164 : decode cX6_init 164 = .ok (.bipush 101, 2) := by decide +kernel
theorem dX6_init_166 : decode cX6_init 166 = .ok (.iastore, 1) := by decide +kernel
theorem dX6_init_167 : decode cX6_init 167 = .ok (.dup, 1) := by decide +kernel
theorem dX6_init_168 : decode cX6_init 168 = .ok (.bipush 15, 2) := by decide +kernel
theorem dX6_init_170 : decode cX6_init 170 = .ok (.bipush 114, 2) := by decide +kernel
theorem dX6_init_172 : decode cX6_init 172 = .ok (.iastore, 1) := by decide +kernel
theorem dX6_init_173 : decode cX6_init 173 = .ok (.dup, 1) := by decide +kernel
theorem dX6_init_174 : decode cX6_init 174 = .ok (.bipush 16, 2) := by decide +kernel
theorem dX6_init_176 : decode cX6_init 176 = .ok (.bipush 103, 2) := by decide +kernel
theorem dX6_init_178 : decode cX6_init 178 = .ok (.iastore, 1) := by decide +kernel
theorem dX6_init_179 : decode cX6_init 179 = .ok (.dup, 1) := by decide +kernel
theorem dX6_init_180 : decode cX6_init 180 = .ok (.bipush 17, 2) := by decide +kernel
theorem dX6_init_182 : decode cX6_init 182 = .ok (.bipush 97, 2) := by decide +kernel
theorem dX6_init_184 : decode cX6_init 184 = .ok (.iastore, 1) := by decide +kernel
theorem dX6_init_185 : decode cX6_init 185 = .ok (.dup, 1) := by decide +kernel
theorem dX6_init_186 : decode cX6_init 186 = .ok (.bipush 18, 2) := by decide +kernel
theorem dX6_init_188 : decode cX6_init 188 = .ok (.bipush 111, 2) := by decide +kernel
theorem dX6_init_190 : decode cX6_init 190 = .ok (.iastore, 1) := by decide +kernel
theorem dX6_init_191 : decode cX6_init 191 = .ok (.dup, 1) := by decide +kernel
theorem dX6_init_192 : decode cX6_init 192 = .ok (.bipush 19, 2) := by decide +kernel
theorem dX6_init_194 : decode cX6_init 194 = .ok (.bipush 108, 2) := by decide +kernel
theorem dX6_init_196 : decode cX6_init 196 = .ok (.iastore, 1) := by decide +kernel
theorem dX6_init_197 : decode cX6_init 197 = .ok (.dup, 1) := by decide +kernel
theorem dX6_init_198 : decode cX6_init 198 = .ok (.bipush 20, 2) := by decide +kernel
theorem dX6_init_200 : decode cX6_init 200 = .ok (.bipush 119, 2) := by decide +kernel
theorem dX6_init_202 : decode cX6_init 202 = .ok (.iastore, 1) := by decide +kernel
theorem dX6_init_203 : decode cX6_init 203 = .ok (.dup, 1) := by decide +kernel
theorem dX6_init_204 : decode cX6_init 204 = .ok (.bipush 21, 2) := by decide +kernel
theorem dX6_init_206 : decode cX6_init 206 = .ok (.bipush 97, 2) := by decide +kernel
theorem dX6_init_208 : decode cX6_init 208 = .ok (.iastore, 1) := by decide +kernel
theorem dX6_init_209 : decode cX6_init 209 = .ok (.dup, 1) := by decide +kernel
theorem dX6_init_210 : decode cX6_init 210 = .ok (.bipush 22, 2) := by decide +kernel
theorem dX6_init_212 : decode cX6_init 212 = .ok (.bipush 108, 2) := by decide +kernel
theorem dX6_init_214 : decode cX6_init 214 = .ok (.iastore, 1) := by decide +kernel
theorem dX6_init_215 : decode cX6_init 215 = .ok (.dup, 1) := by decide +kernel
theorem dX6_init_216 : decode cX6_init 216 = .ok (.bipush 23, 2) := by decide +kernel
theorem dX6_init_218 : decode cX6_init 218 = .ok (.bipush 108, 2) := by decide +kernel
theorem dX6_init_220 : decode cX6_init 220 = .ok (.iastore, 1) := by decide +kernel
theorem dX6_init_221 : decode cX6_init 221 = .ok (.dup, 1) := by decide +kernel
theorem dX6_init_222 : decode cX6_init 222 = .ok (.bipush 24, 2) := by decide +kernel
theorem dX6_init_224 : decode cX6_init 224 = .ok (.bipush 114, 2) := by decide +kernel
theorem dX6_init_226 : decode cX6_init 226 = .ok (.iastore, 1) := by decide +kernel
theorem dX6_init_227 : decode cX6_init 227 = .ok (.dup, 1) := by decide +kernel
theorem dX6_init_228 : decode cX6_init 228 = .ok (.bipush 25, 2) := by decide +kernel
theorem dX6_init_230 : decode cX6_init 230 = .ok (.bipush 111, 2) := by decide +kernel
theorem dX6_init_232 : decode cX6_init 232 = .ok (.iastore, 1) := by decide +kernel
theorem dX6_init_233 : decode cX6_init 233 = .ok (.dup, 1) := by decide +kernel
theorem dX6_init_234 : decode cX6_init 234 = .ok (.bipush 26, 2) := by decide +kernel
theorem dX6_init_236 : decode cX6_init 236 = .ok (.bipush 111, 2) := by decide +kernel
theorem dX6_init_238 : decode cX6_init 238 = .ok (.iastore, 1) := by decide +kernel
theorem dX6_init_239 : decode cX6_init 239 = .ok (.dup, 1) := by decide +kernel
theorem dX6_init_240 : decode cX6_init 240 = .ok (.bipush 27, 2) := by decide +kernel
theorem dX6_init_242 : decode cX6_init 242 = .ok (.bipush 109, 2) := by decide +kernel
theorem dX6_init_244 : decode cX6_init 244 = .ok (.iastore, 1) := by decide +kernel
theorem dX6_init_245 : decode cX6_init 245 = .ok (.dup, 1) := by decide +kernel
theorem dX6_init_246 : decode cX6_init 246 = .ok (.bipush 28, 2) := by decide +kernel
theorem dX6_init_248 : decode cX6_init 248 = .ok (.bipush 112, 2) := by decide +kernel
theorem dX6_init_250 : decode cX6_init 250 = .ok (.iastore, 1) := by decide +kernel
theorem dX6_init_251 : decode cX6_init 251 = .ok (.dup, 1) := by decide +kernel
theorem dX6_init_252 : decode cX6_init 252 = .ok (.bipush 29, 2) := by decide +kernel
theorem dX6_init_254 : decode cX6_init 254 = .ok (.bipush 108, 2) := by decide +kernel
theorem dX6_init_256 : decode cX6_init 256 = .ok (.iastore, 1) := by decide +kernel
theorem dX6_init_257 : decode cX6_init 257 = .ok (.dup, 1) := by decide +kernel
theorem dX6_init_258 : decode cX6_init 258 = .ok (.bipush 30, 2) := by decide +kernel
theorem dX6_init_260 : decode cX6_init 260 = .ok (.bipush 97, 2) := by decide +kernel
theorem dX6_init_262 : decode cX6_init 262 = .ok (.iastore, 1) := by decide +kernel
theorem dX6_init_263 : decode cX6_init 263 = .ok (.dup, 1) := by decide +kernel
theorem dX6_init_264 : decode cX6_init 264 = .ok (.bipush 31, 2) := by decide +kernel
theorem dX6_init_266 : decode cX6_init 266 = .ok (.bipush 110, 2) := by decide +kernel
theorem dX6_init_268 : decode cX6_init 268 = .ok (.iastore, 1) := by decide +kernel
theorem dX6_init_269 : decode cX6_init 269 = .ok (.putfield 22, 3) := by decide +kernel
theorem dX6_init_272 : decode cX6_init 272 = .ok (.aload_n 0, 1) := by decide +kernel
theorem dX6_init_273 : decode cX6_init 273 = .ok (.bipush 8, 2) := by decide +kernel
theorem dX6_init_275 : decode cX6_init 275 = .ok (.newarray .int, 2) := by decide +kernel
theorem dX6_init_277 : decode cX6_init 277 = .ok (.putfield 25, 3) := by decide +kernel
theorem dX6_init_280 : decode cX6_init 280 = .ok (.aload_n 0, 1) := by decide +kernel
theorem dX6_init_281 : decode cX6_init 281 = .ok (.bipush 18, 2) := by decide +kernel
theorem dX6_init_283 : decode cX6_init 283 = .ok (.newarray .int, 2) := by decide +kernel
theorem dX6_init_285 : decode cX6_init 285 = .ok (.putfield 28, 3) := by decide +kernel
theorem dX6_init_288 : decode cX6_init 288 = .ok (.aload_n 0, 1) := by decide +kernel
theorem dX6_init_289 : decode cX6_init 289 = .ok (.bipush 45, 2) := by decide +kernel
theorem dX6_init_291 : decode cX6_init 291 = .ok (.newarray .int, 2) := by decide +kernel
theorem dX6_init_293 : decode cX6_init 293 = .ok (.putfield 31, 3) := by decide +kernel
theorem dX6_init_296 : decode cX6_init 296 = .ok (.aload_n 0, 1) := by decide +kernel
theorem dX6_init_297 : decode cX6_init 297 = .ok (.iconst 2, 1) := by decide +kernel
theorem dX6_init_298 : decode cX6_init 298 = .ok (.newarray .boolean, 2) := by decide +kernel
theorem dX6_init_300 : decode cX6_init 300 = .ok (.putfield 34, 3) := by decide +kernel
theorem dX6_init_303 : decode cX6_init 303 = .ok (.aload_n 0, 1) := by decide +kernel
theorem dX6_init_304 : decode cX6_init 304 = .ok (.iconst 4, 1) := by decide +kernel
theorem dX6_init_305 : decode cX6_init 305 = .ok (.newarray .int, 2) := by decide +kernel
theorem dX6_init_307 : decode cX6_init 307 = .ok (.dup, 1) := by decide +kernel
theorem dX6_init_308 : decode cX6_init 308 = .ok (.iconst 0, 1) := by decide +kernel
theorem dX6_init_309 : decode cX6_init 309 = .ok (.bipush (-4), 2) := by decide +kernel
theorem dX6_init_311 : decode cX6_init 311 = .ok (.iastore, 1) := by decide +kernel
theorem dX6_init_312 : decode cX6_init 312 = .ok (.dup, 1) := by decide +kernel
theorem dX6_init_313 : decode cX6_init 313 = .ok (.iconst 1, 1) := by decide +kernel
theorem dX6_init_314 : decode cX6_init 314 = .ok (.bipush (-4), 2) := by decide +kernel
theorem dX6_init_316 : decode cX6_init 316 = .ok (.iastore, 1) := by decide +kernel
theorem dX6_init_317 : decode cX6_init 317 = .ok (.dup, 1) := by decide +kernel
theorem dX6_init_318 : decode cX6_init 318 = .ok (.iconst 2, 1) := by decide +kernel
theorem dX6_init_319 : decode cX6_init 319 = .ok (.bipush (-4), 2) := by decide +kernel
theorem dX6_init_321 : decode cX6_init 321 = .ok (.iastore, 1) := by decide +kernel
theorem dX6_init_322 : decode cX6_init 322 = .ok (.dup, 1) := by decide +kernel
theorem dX6_init_323 : decode cX6_init 323 = .ok (.iconst 3, 1) := by decide +kernel
theorem dX6_init_324 : decode cX6_init 324 = .ok (.bipush (-4), 2) := by decide +kernel
theorem dX6_init_326 : decode cX6_init 326 = .ok (.iastore, 1) := by decide +kernel
theorem dX6_init_327 : decode cX6_init 327 = .ok (.putfield 38, 3) := by decide +kernel
theorem dX6_init_330 : decode cX6_init 330 = .ok (.aload_n 0, 1) := by decide +kernel
theorem dX6_init_331 : decode cX6_init 331 = .ok (.iconst 4, 1) := by decide +kernel
theorem dX6_init_332 : decode cX6_init 332 = .ok (.newarray .int, 2) := by decide +kernel
theorem dX6_init_334 : decode cX6_init 334 = .ok (.putfield 41, 3) := by decide +kernel
theorem dX6_init_337 : decode cX6_init 337 = .ok (.aload_n 0, 1) := by decide +kernel
theorem dX6_init_338 : decode cX6_init 338 = .ok (.sipush 160, 3) := by decide +kernel
theorem dX6_init_341 : decode cX6_init 341 = .ok (.newarray .int, 2) := by decide +kernel
theorem dX6_init_343 : decode cX6_init 343 = .ok (.putfield 44, 3) := by decide +kernel
theorem dX6_init_346 : decode cX6_init 346 = .ok (.return_, 1) := by decide +kernel
theorem dX6_in_0 : decode cX6_in 0 = .ok (.lload_n 0, 1) := by decide +kernel
theorem dX6_in_1 : decode cX6_in 1 = .ok (.lload_n 2, 1) := by decide +kernel
theorem dX6_in_2 : decode cX6_in 2 = .ok (.lcmp, 1) := by decide +kernel
theorem dX6_in_3 : decode cX6_in 3 = .ok (.ifCond .lt 14, 3) := by decide +kernel
theorem dX6_in_6 : decode cX6_in 6 = .ok (.lload_n 0, 1) := by decide +kernel
theorem dX6_in_7 : decode cX6_in 7 = .ok (.lload 4, 2) := by decide +kernel
theorem dX6_in_9 : decode cX6_in 9 = .ok (.lcmp, 1) := by decide +kernel
theorem dX6_in_10 : decode cX6_in 10 = .ok (.ifCond .gt 7, 3) := by decide +kernel
theorem dX6_in_13 : decode cX6_in 13 = .ok (.iconst 1, 1) := by decide +kernel
theorem dX6_in_14 : decode cX6_in 14 = .ok (.goto 4, 3) := by decide +kernel
theorem dX6_in_17 : decode cX6_in 17 = .ok (.iconst 0, 1) := by decide +kernel
theorem dX6_in_18 : decode cX6_in 18 = .ok (.ireturn, 1) := by decide +kernel
theorem dX6_feed_0 : decode cX6_feed 0 = .ok (.iload_n 1, 1) := by decide +kernel
theorem dX6_feed_1 : decode cX6_feed 1 = .ok (.i2l, 1) := by decide +kernel
theorem dX6_feed_2 : decode cX6_feed 2 = .ok (.lconst 0, 1) := by decide +kernel
theorem dX6_feed_3 : decode cX6_feed 3 = .ok (.ldc2_w 47, 3) := by decide +kernel
theorem dX6_feed_6 : decode cX6_feed 6 = .ok (.invokestatic 49, 3) := by decide +kernel
theorem dX6_feed_9 : decode cX6_feed 9 = .ok (.ifCond .ne 5, 3) := by decide +kernel
theorem dX6_feed_12 : decode cX6_feed 12 = .ok (.iconst (-1), 1) := by decide +kernel
theorem dX6_feed_13 : decode cX6_feed 13 = .ok (.ireturn, 1) := by decide +kernel
theorem dX6_feed_14 : decode cX6_feed 14 = .ok (.aload_n 0, 1) := by decide +kernel
theorem dX6_feed_15 : decode cX6_feed 15 = .ok (.getfield 53, 3) := by decide +kernel
theorem dX6_feed_18 : decode cX6_feed 18 = .ok (.sipush 160, 3) := by decide +kernel
theorem dX6_feed_21 : decode cX6_feed 21 = .ok (.if_icmp .ne 6, 3) := by decide +kernel
theorem dX6_feed_24 : decode cX6_feed 24 = .ok (.bipush (-3), 2) := by decide +kernel
theorem dX6_feed_26 : decode cX6_feed 26 = .ok (.ireturn, 1) := by decide +kernel
theorem dX6_feed_27 : decode cX6_feed 27 = .ok (.aload_n 0, 1) := by decide +kernel
theorem dX6_feed_28 : decode cX6_feed 28 = .ok (.getfield 16, 3) := by decide +kernel
theorem dX6_feed_31 : decode cX6_feed 31 = .ok (.aload_n 0, 1) := by decide +kernel
theorem dX6_feed_32 : decode cX6_feed 32 = .ok (.getfield 53, 3) := by decide +kernel
theorem dX6_feed_35 : decode cX6_feed 35 = .ok (.iload_n 1, 1) := by decide +kernel
theorem dX6_feed_36 : decode cX6_feed 36 = .ok (.iastore, 1) := by decide +kernel
theorem dX6_feed_37 : decode cX6_feed 37 = .ok (.aload_n 0, 1) := by decide +kernel
theorem dX6_feed_38 : decode cX6_feed 38 = .ok (.dup, 1) := by decide +kernel
theorem dX6_feed_39 : decode cX6_feed 39 = .ok (.getfield 53, 3) := by decide +kernel
theorem dX6_feed_42 : decode cX6_feed 42 = .ok (.iconst 1, 1) := by decide +kernel
theorem dX6_feed_43 : decode cX6_feed 43 = .ok (.iadd, 1) := by decide +kernel
theorem dX6_feed_44 : decode cX6_feed 44 = .ok (.putfield 53, 3) := by decide +kernel
theorem dX6_feed_47 : decode cX6_feed 47 = .ok (.aload_n 0, 1) := by decide +kernel
theorem dX6_feed_48 : decode cX6_feed 48 = .ok (.getfield 53, 3) := by decide +kernel
theorem dX6_feed_51 : decode cX6_feed 51 = .ok (.ireturn, 1) := by decide +kernel
theorem dX6_end_0 : decode cX6_end 0 = .ok (.iload_n 1, 1) := by decide +kernel
theorem dX6_end_1 : decode cX6_end 1 = .ok (.i2l, 1) := by decide +kernel
theorem dX6_end_2 : decode cX6_end 2 = .ok (.lconst 0, 1) := by decide +kernel
theorem dX6_end_3 : decode cX6_end 3 = .ok (.aload_n 0, 1) := by decide +kernel
theorem dX6_end_4 : decode cX6_end 4 = .ok (.getfield 53, 3) := by decide +kernel
theorem dX6_end_7 : decode cX6_end 7 = .ok (.i2l, 1) := by decide +kernel
theorem dX6_end_8 : decode cX6_end 8 = .ok (.invokestatic 49, 3) := by decide +kernel
theorem dX6_end_11 : decode cX6_end 11 = .ok (.ifCond .ne 5, 3) := by decide +kernel
theorem dX6_end_14 : decode cX6_end 14 = .ok (.iconst (-1), 1) := by decide +kernel
theorem dX6_end_15 : decode cX6_end 15 = .ok (.ireturn, 1) := by decide +kernel
theorem dX6_end_16 : decode cX6_end 16 = .ok (.aload_n 0, 1) := by decide +kernel
theorem dX6_end_17 : decode cX6_end 17 = .ok (.getfield 53, 3) := by decide +kernel
theorem dX6_end_20 : decode cX6_end 20 = .ok (.istore_n 2, 1) := by decide +kernel
theorem dX6_end_21 : decode cX6_end 21 = .ok (.aload_n 0, 1) := by decide +kernel
theorem dX6_end_22 : decode cX6_end 22 = .ok (.iload_n 1, 1) := by decide +kernel
theorem dX6_end_23 : decode cX6_end 23 = .ok (.putfield 53, 3) := by decide +kernel
theorem dX6_end_26 : decode cX6_end 26 = .ok (.iload_n 2, 1) := by decide +kernel
theorem dX6_end_27 : decode cX6_end 27 = .ok (.ireturn, 1) := by decide +kernel
theorem dX6_byteAt_0 : decode cX6_byteAt 0 = .ok (.iload_n 1, 1) := by decide +kernel
theorem dX6_byteAt_1 : decode cX6_byteAt 1 = .ok (.aload_n 0, 1) := by decide +kernel
theorem dX6_byteAt_2 : decode cX6_byteAt 2 = .ok (.getfield 53, 3) := by decide +kernel
theorem dX6_byteAt_5 : decode cX6_byteAt 5 = .ok (.if_icmp .ge 12, 3) := by decide +kernel
theorem dX6_byteAt_8 : decode cX6_byteAt 8 = .ok (.aload_n 0, 1) := by decide +kernel
theorem dX6_byteAt_9 : decode cX6_byteAt 9 = .ok (.getfield 16, 3) := by decide +kernel
theorem dX6_byteAt_12 : decode cX6_byteAt 12 = .ok (.iload_n 1, 1) := by decide +kernel
theorem dX6_byteAt_13 : decode cX6_byteAt 13 = .ok (.iaload, 1) := by decide +kernel
theorem dX6_byteAt_14 : decode cX6_byteAt 14 = .ok (.goto 5, 3) := by decide +kernel
theorem dX6_byteAt_17 : decode cX6_byteAt 17 = .ok (.bipush (-4), 2) := by decide +kernel
theorem dX6_byteAt_19 : decode cX6_byteAt 19 = .ok (.ireturn, 1) := by decide +kernel
theorem dX6_fails_0 : decode cX6_fails 0 = .ok (.aload_n 0, 1) := by decide +kernel
theorem dX6_fails_1 : decode cX6_fails 1 = .ok (.getfield 57, 3) := by decide +kernel
theorem dX6_fails_4 : decode cX6_fails 4 = .ok (.ifCond .ne 16, 3) := by decide +kernel
theorem dX6_fails_7 : decode cX6_fails 7 = .ok (.aload_n 0, 1) := by decide +kernel
theorem dX6_fails_8 : decode cX6_fails 8 = .ok (.iload_n 1, 1) := by decide +kernel
theorem dX6_fails_9 : decode cX6_fails 9 = .ok (.putfield 57, 3) := by decide +kernel
theorem dX6_fails_12 : decode cX6_fails 12 = .ok (.aload_n 0, 1) := by decide +kernel
theorem dX6_fails_13 : decode cX6_fails 13 = .ok (.aload_n 0, 1) := by decide +kernel
theorem dX6_fails_14 : decode cX6_fails 14 = .ok (.getfield 60, 3) := by decide +kernel
theorem dX6_fails_17 : decode cX6_fails 17 = .ok (.putfield 63, 3) := by decide +kernel
theorem dX6_fails_20 : decode cX6_fails 20 = .ok (.return_, 1) := by decide +kernel
theorem dX6_nameHere_0 : decode cX6_nameHere 0 = .ok (.iconst 0, 1) := by decide +kernel
theorem dX6_nameHere_1 : decode cX6_nameHere 1 = .ok (.istore_n 1, 1) := by decide +kernel
theorem dX6_nameHere_2 : decode cX6_nameHere 2 = .ok (.iload_n 1, 1) := by decide +kernel
theorem dX6_nameHere_3 : decode cX6_nameHere 3 = .ok (.bipush 7, 2) := by decide +kernel
theorem dX6_nameHere_5 : decode cX6_nameHere 5 = .ok (.if_icmp .ge 113, 3) := by decide +kernel
theorem dX6_nameHere_8 : decode cX6_nameHere 8 = .ok (.aload_n 0, 1) := by decide +kernel
theorem dX6_nameHere_9 : decode cX6_nameHere 9 = .ok (.getfield 66, 3) := by decide +kernel
theorem dX6_nameHere_12 : decode cX6_nameHere 12 = .ok (.iconst 1, 1) := by decide +kernel
theorem dX6_nameHere_13 : decode cX6_nameHere 13 = .ok (.if_icmp .ne 105, 3) := by decide +kernel
theorem dX6_nameHere_16 : decode cX6_nameHere 16 = .ok (.aload_n 0, 1) := by decide +kernel
theorem dX6_nameHere_17 : decode cX6_nameHere 17 = .ok (.getfield 69, 3) := by decide +kernel
theorem dX6_nameHere_20 : decode cX6_nameHere 20 = .ok (.aload_n 0, 1) := by decide +kernel
theorem dX6_nameHere_21 : decode cX6_nameHere 21 = .ok (.getfield 60, 3) := by decide +kernel
theorem dX6_nameHere_24 : decode cX6_nameHere 24 = .ok (.isub, 1) := by decide +kernel
theorem dX6_nameHere_25 : decode cX6_nameHere 25 = .ok (.aload_n 0, 1) := by decide +kernel
theorem dX6_nameHere_26 : decode cX6_nameHere 26 = .ok (.getfield 19, 3) := by decide +kernel
theorem dX6_nameHere_29 : decode cX6_nameHere 29 = .ok (.iload_n 1, 1) := by decide +kernel
theorem dX6_nameHere_30 : decode cX6_nameHere 30 = .ok (.iconst 1, 1) := by decide +kernel
theorem dX6_nameHere_31 : decode cX6_nameHere 31 = .ok (.iadd, 1) := by decide +kernel
theorem dX6_nameHere_32 : decode cX6_nameHere 32 = .ok (.iaload, 1) := by decide +kernel
theorem dX6_nameHere_33 : decode cX6_nameHere 33 = .ok (.aload_n 0, 1) := by decide +kernel
theorem dX6_nameHere_34 : decode cX6_nameHere 34 = .ok (.getfield 19, 3) := by decide +kernel
theorem dX6_nameHere_37 : decode cX6_nameHere 37 = .ok (.iload_n 1, 1) := by decide +kernel
theorem dX6_nameHere_38 : decode cX6_nameHere 38 = .ok (.iaload, 1) := by decide +kernel
theorem dX6_nameHere_39 : decode cX6_nameHere 39 = .ok (.isub, 1) := by decide +kernel
theorem dX6_nameHere_40 : decode cX6_nameHere 40 = .ok (.if_icmp .ne 7, 3) := by decide +kernel
theorem dX6_nameHere_43 : decode cX6_nameHere 43 = .ok (.iconst 1, 1) := by decide +kernel
theorem dX6_nameHere_44 : decode cX6_nameHere 44 = .ok (.goto 4, 3) := by decide +kernel
theorem dX6_nameHere_47 : decode cX6_nameHere 47 = .ok (.iconst 0, 1) := by decide +kernel
theorem dX6_nameHere_48 : decode cX6_nameHere 48 = .ok (.istore_n 2, 1) := by decide +kernel
theorem dX6_nameHere_49 : decode cX6_nameHere 49 = .ok (.iconst 0, 1) := by decide +kernel
theorem dX6_nameHere_50 : decode cX6_nameHere 50 = .ok (.istore_n 3, 1) := by decide +kernel
theorem dX6_nameHere_51 : decode cX6_nameHere 51 = .ok (.iload_n 2, 1) := by decide +kernel
theorem dX6_nameHere_52 : decode cX6_nameHere 52 = .ok (.ifCond .eq 54, 3) := by decide +kernel
theorem dX6_nameHere_55 : decode cX6_nameHere 55 = .ok (.iload_n 3, 1) := by decide +kernel
theorem dX6_nameHere_56 : decode cX6_nameHere 56 = .ok (.aload_n 0, 1) := by decide +kernel
theorem dX6_nameHere_57 : decode cX6_nameHere 57 = .ok (.getfield 69, 3) := by decide +kernel
theorem dX6_nameHere_60 : decode cX6_nameHere 60 = .ok (.aload_n 0, 1) := by decide +kernel
theorem dX6_nameHere_61 : decode cX6_nameHere 61 = .ok (.getfield 60, 3) := by decide +kernel
theorem dX6_nameHere_64 : decode cX6_nameHere 64 = .ok (.isub, 1) := by decide +kernel
theorem dX6_nameHere_65 : decode cX6_nameHere 65 = .ok (.if_icmp .ge 41, 3) := by decide +kernel
theorem dX6_nameHere_68 : decode cX6_nameHere 68 = .ok (.aload_n 0, 1) := by decide +kernel
theorem dX6_nameHere_69 : decode cX6_nameHere 69 = .ok (.aload_n 0, 1) := by decide +kernel
theorem dX6_nameHere_70 : decode cX6_nameHere 70 = .ok (.getfield 60, 3) := by decide +kernel
theorem dX6_nameHere_73 : decode cX6_nameHere 73 = .ok (.iload_n 3, 1) := by decide +kernel
theorem dX6_nameHere_74 : decode cX6_nameHere 74 = .ok (.iadd, 1) := by decide +kernel
theorem dX6_nameHere_75 : decode cX6_nameHere 75 = .ok (.invokevirtual 72, 3) := by decide +kernel
theorem dX6_nameHere_78 : decode cX6_nameHere 78 = .ok (.aload_n 0, 1) := by decide +kernel
theorem dX6_nameHere_79 : decode cX6_nameHere 79 = .ok (.getfield 22, 3) := by decide +kernel
theorem dX6_nameHere_82 : decode cX6_nameHere 82 = .ok (.aload_n 0, 1) := by decide +kernel
theorem dX6_nameHere_83 : decode cX6_nameHere 83 = .ok (.getfield 19, 3) := by decide +kernel
theorem dX6_nameHere_86 : decode cX6_nameHere 86 = .ok (.iload_n 1, 1) := by decide +kernel
theorem dX6_nameHere_87 : decode cX6_nameHere 87 = .ok (.iaload, 1) := by decide +kernel
theorem dX6_nameHere_88 : decode cX6_nameHere 88 = .ok (.iload_n 3, 1) := by decide +kernel
theorem dX6_nameHere_89 : decode cX6_nameHere 89 = .ok (.iadd, 1) := by decide +kernel
theorem dX6_nameHere_90 : decode cX6_nameHere 90 = .ok (.iaload, 1) := by decide +kernel
theorem dX6_nameHere_91 : decode cX6_nameHere 91 = .ok (.if_icmp .ne 7, 3) := by decide +kernel
theorem dX6_nameHere_94 : decode cX6_nameHere 94 = .ok (.iconst 1, 1) := by decide +kernel
theorem dX6_nameHere_95 : decode cX6_nameHere 95 = .ok (.goto 4, 3) := by decide +kernel
theorem dX6_nameHere_98 : decode cX6_nameHere 98 = .ok (.iconst 0, 1) := by decide +kernel
theorem dX6_nameHere_99 : decode cX6_nameHere 99 = .ok (.istore_n 2, 1) := by decide +kernel
theorem dX6_nameHere_100 : decode cX6_nameHere 100 = .ok (.iinc 3 1, 3) := by decide +kernel
theorem dX6_nameHere_103 : decode cX6_nameHere 103 = .ok (.goto (-52), 3) := by decide +kernel
theorem dX6_nameHere_106 : decode cX6_nameHere 106 = .ok (.iload_n 2, 1) := by decide +kernel
theorem dX6_nameHere_107 : decode cX6_nameHere 107 = .ok (.ifCond .eq 5, 3) := by decide +kernel
theorem dX6_nameHere_110 : decode cX6_nameHere 110 = .ok (.iload_n 1, 1) := by decide +kernel
theorem dX6_nameHere_111 : decode cX6_nameHere 111 = .ok (.ireturn, 1) := by decide +kernel
theorem dX6_nameHere_112 : decode cX6_nameHere 112 = .ok (.iinc 1 1, 3) := by decide +kernel
theorem dX6_nameHere_115 : decode cX6_nameHere 115 = .ok (.goto (-113), 3) := by decide +kernel
theorem dX6_nameHere_118 : decode cX6_nameHere 118 = .ok (.bipush (-4), 2) := by decide +kernel
theorem dX6_nameHere_120 : decode cX6_nameHere 120 = .ok (.ireturn, 1) := by decide +kernel
theorem dX6_step_0 : decode cX6_step 0 = .ok (.aload_n 0, 1) := by decide +kernel
theorem dX6_step_1 : decode cX6_step 1 = .ok (.getfield 57, 3) := by decide +kernel
theorem dX6_step_4 : decode cX6_step 4 = .ok (.ifCond .le 4, 3) := by decide +kernel
theorem dX6_step_7 : decode cX6_step 7 = .ok (.return_, 1) := by decide +kernel
theorem dX6_step_8 : decode cX6_step 8 = .ok (.aload_n 0, 1) := by decide +kernel
theorem dX6_step_9 : decode cX6_step 9 = .ok (.aload_n 0, 1) := by decide +kernel
theorem dX6_step_10 : decode cX6_step 10 = .ok (.getfield 69, 3) := by decide +kernel
theorem dX6_step_13 : decode cX6_step 13 = .ok (.invokevirtual 72, 3) := by decide +kernel
theorem dX6_step_16 : decode cX6_step 16 = .ok (.bipush 32, 2) := by decide +kernel
theorem dX6_step_18 : decode cX6_step 18 = .ok (.if_icmp .ne 16, 3) := by decide +kernel
theorem dX6_step_21 : decode cX6_step 21 = .ok (.aload_n 0, 1) := by decide +kernel
theorem dX6_step_22 : decode cX6_step 22 = .ok (.dup, 1) := by decide +kernel
theorem dX6_step_23 : decode cX6_step 23 = .ok (.getfield 69, 3) := by decide +kernel
theorem dX6_step_26 : decode cX6_step 26 = .ok (.iconst 1, 1) := by decide +kernel
theorem dX6_step_27 : decode cX6_step 27 = .ok (.iadd, 1) := by decide +kernel
theorem dX6_step_28 : decode cX6_step 28 = .ok (.putfield 69, 3) := by decide +kernel
theorem dX6_step_31 : decode cX6_step 31 = .ok (.goto (-23), 3) := by decide +kernel
theorem dX6_step_34 : decode cX6_step 34 = .ok (.aload_n 0, 1) := by decide +kernel
theorem dX6_step_35 : decode cX6_step 35 = .ok (.aload_n 0, 1) := by decide +kernel
theorem dX6_step_36 : decode cX6_step 36 = .ok (.getfield 69, 3) := by decide +kernel
theorem dX6_step_39 : decode cX6_step 39 = .ok (.putfield 60, 3) := by decide +kernel
theorem dX6_step_42 : decode cX6_step 42 = .ok (.aload_n 0, 1) := by decide +kernel
theorem dX6_step_43 : decode cX6_step 43 = .ok (.aload_n 0, 1) := by decide +kernel
theorem dX6_step_44 : decode cX6_step 44 = .ok (.getfield 69, 3) := by decide +kernel
theorem dX6_step_47 : decode cX6_step 47 = .ok (.invokevirtual 72, 3) := by decide +kernel
theorem dX6_step_50 : decode cX6_step 50 = .ok (.istore_n 1, 1) := by decide +kernel
theorem dX6_step_51 : decode cX6_step 51 = .ok (.aload_n 0, 1) := by decide +kernel
theorem dX6_step_52 : decode cX6_step 52 = .ok (.iconst 0, 1) := by decide +kernel
theorem dX6_step_53 : decode cX6_step 53 = .ok (.putfield 76, 3) := by decide +kernel
theorem dX6_step_56 : decode cX6_step 56 = .ok (.iload_n 1, 1) := by decide +kernel
theorem dX6_step_57 : decode cX6_step 57 = .ok (.bipush (-4), 2) := by decide +kernel
theorem dX6_step_59 : decode cX6_step 59 = .ok (.if_icmp .ne 11, 3) := by decide +kernel
theorem dX6_step_62 : decode cX6_step 62 = .ok (.aload_n 0, 1) := by decide +kernel
theorem dX6_step_63 : decode cX6_step 63 = .ok (.iconst 0, 1) := by decide +kernel
theorem dX6_step_64 : decode cX6_step 64 = .ok (.putfield 66, 3) := by decide +kernel
theorem dX6_step_67 : decode cX6_step 67 = .ok (.goto 202, 3) := by decide +kernel
theorem dX6_step_70 : decode cX6_step 70 = .ok (.iload_n 1, 1) := by decide +kernel
theorem dX6_step_71 : decode cX6_step 71 = .ok (.i2l, 1) := by decide +kernel
theorem dX6_step_72 : decode cX6_step 72 = .ok (.ldc2_w 79, 3) := by decide +kernel
theorem dX6_step_75 : decode cX6_step 75 = .ok (.ldc2_w 81, 3) := by decide +kernel
theorem dX6_step_78 : decode cX6_step 78 = .ok (.invokestatic 49, 3) := by decide +kernel
theorem dX6_step_81 : decode cX6_step 81 = .ok (.ifCond .eq 45, 3) := by decide +kernel
theorem dX6_step_84 : decode cX6_step 84 = .ok (.aload_n 0, 1) := by decide +kernel
theorem dX6_step_85 : decode cX6_step 85 = .ok (.aload_n 0, 1) := by decide +kernel
theorem dX6_step_86 : decode cX6_step 86 = .ok (.getfield 69, 3) := by decide +kernel
theorem dX6_step_89 : decode cX6_step 89 = .ok (.invokevirtual 72, 3) := by decide +kernel
theorem dX6_step_92 : decode cX6_step 92 = .ok (.i2l, 1) := by decide +kernel
theorem dX6_step_93 : decode cX6_step 93 = .ok (.ldc2_w 79, 3) := by decide +kernel
theorem dX6_step_96 : decode cX6_step 96 = .ok (.ldc2_w 81, 3) := by decide +kernel
theorem dX6_step_99 : decode cX6_step 99 = .ok (.invokestatic 49, 3) := by decide +kernel
theorem dX6_step_102 : decode cX6_step 102 = .ok (.ifCond .eq 16, 3) := by decide +kernel
theorem dX6_step_105 : decode cX6_step 105 = .ok (.aload_n 0, 1) := by decide +kernel
theorem dX6_step_106 : decode cX6_step 106 = .ok (.dup, 1) := by decide +kernel
theorem dX6_step_107 : decode cX6_step 107 = .ok (.getfield 69, 3) := by decide +kernel
theorem dX6_step_110 : decode cX6_step 110 = .ok (.iconst 1, 1) := by decide +kernel
theorem dX6_step_111 : decode cX6_step 111 = .ok (.iadd, 1) := by decide +kernel
theorem dX6_step_112 : decode cX6_step 112 = .ok (.putfield 69, 3) := by decide +kernel
theorem dX6_step_115 : decode cX6_step 115 = .ok (.goto (-31), 3) := by decide +kernel
theorem dX6_step_118 : decode cX6_step 118 = .ok (.aload_n 0, 1) := by decide +kernel
theorem dX6_step_119 : decode cX6_step 119 = .ok (.iconst 1, 1) := by decide +kernel
theorem dX6_step_120 : decode cX6_step 120 = .ok (.putfield 66, 3) := by decide +kernel
theorem dX6_step_123 : decode cX6_step 123 = .ok (.goto 146, 3) := by decide +kernel
theorem dX6_step_126 : decode cX6_step 126 = .ok (.iload_n 1, 1) := by decide +kernel
theorem dX6_step_127 : decode cX6_step 127 = .ok (.i2l, 1) := by decide +kernel
theorem dX6_step_128 : decode cX6_step 128 = .ok (.ldc2_w 83, 3) := by decide +kernel
theorem dX6_step_131 : decode cX6_step 131 = .ok (.ldc2_w 85, 3) := by decide +kernel
theorem dX6_step_134 : decode cX6_step 134 = .ok (.invokestatic 49, 3) := by decide +kernel
theorem dX6_step_137 : decode cX6_step 137 = .ok (.ifCond .eq 106, 3) := by decide +kernel
theorem dX6_step_140 : decode cX6_step 140 = .ok (.aload_n 0, 1) := by decide +kernel
theorem dX6_step_141 : decode cX6_step 141 = .ok (.aload_n 0, 1) := by decide +kernel
theorem dX6_step_142 : decode cX6_step 142 = .ok (.getfield 69, 3) := by decide +kernel
theorem dX6_step_145 : decode cX6_step 145 = .ok (.invokevirtual 72, 3) := by decide +kernel
theorem dX6_step_148 : decode cX6_step 148 = .ok (.i2l, 1) := by decide +kernel
theorem dX6_step_149 : decode cX6_step 149 = .ok (.ldc2_w 83, 3) := by decide +kernel
theorem dX6_step_152 : decode cX6_step 152 = .ok (.ldc2_w 85, 3) := by decide +kernel
theorem dX6_step_155 : decode cX6_step 155 = .ok (.invokestatic 49, 3) := by decide +kernel
theorem dX6_step_158 : decode cX6_step 158 = .ok (.ifCond .eq 59, 3) := by decide +kernel
theorem dX6_step_161 : decode cX6_step 161 = .ok (.aload_n 0, 1) := by decide +kernel
theorem dX6_step_162 : decode cX6_step 162 = .ok (.aload_n 0, 1) := by decide +kernel
theorem dX6_step_163 : decode cX6_step 163 = .ok (.getfield 69, 3) := by decide +kernel
theorem dX6_step_166 : decode cX6_step 166 = .ok (.aload_n 0, 1) := by decide +kernel
theorem dX6_step_167 : decode cX6_step 167 = .ok (.getfield 60, 3) := by decide +kernel
theorem dX6_step_170 : decode cX6_step 170 = .ok (.isub, 1) := by decide +kernel
theorem dX6_step_171 : decode cX6_step 171 = .ok (.iconst 2, 1) := by decide +kernel
theorem dX6_step_172 : decode cX6_step 172 = .ok (.if_icmp .ge 25, 3) := by decide +kernel
theorem dX6_step_175 : decode cX6_step 175 = .ok (.bipush 10, 2) := by decide +kernel
theorem dX6_step_177 : decode cX6_step 177 = .ok (.aload_n 0, 1) := by decide +kernel
theorem dX6_step_178 : decode cX6_step 178 = .ok (.getfield 76, 3) := by decide +kernel
theorem dX6_step_181 : decode cX6_step 181 = .ok (.imul, 1) := by decide +kernel
theorem dX6_step_182 : decode cX6_step 182 = .ok (.aload_n 0, 1) := by decide +kernel
theorem dX6_step_183 : decode cX6_step 183 = .ok (.aload_n 0, 1) := by decide +kernel
theorem dX6_step_184 : decode cX6_step 184 = .ok (.getfield 69, 3) := by decide +kernel
theorem dX6_step_187 : decode cX6_step 187 = .ok (.invokevirtual 72, 3) := by decide +kernel
theorem dX6_step_190 : decode cX6_step 190 = .ok (.iadd, 1) := by decide +kernel
theorem dX6_step_191 : decode cX6_step 191 = .ok (.bipush 48, 2) := by decide +kernel
theorem dX6_step_193 : decode cX6_step 193 = .ok (.isub, 1) := by decide +kernel
theorem dX6_step_194 : decode cX6_step 194 = .ok (.goto 7, 3) := by decide +kernel
theorem dX6_step_197 : decode cX6_step 197 = .ok (.aload_n 0, 1) := by decide +kernel
theorem dX6_step_198 : decode cX6_step 198 = .ok (.getfield 76, 3) := by decide +kernel
theorem dX6_step_201 : decode cX6_step 201 = .ok (.putfield 76, 3) := by decide +kernel
theorem dX6_step_204 : decode cX6_step 204 = .ok (.aload_n 0, 1) := by decide +kernel
theorem dX6_step_205 : decode cX6_step 205 = .ok (.dup, 1) := by decide +kernel
theorem dX6_step_206 : decode cX6_step 206 = .ok (.getfield 69, 3) := by decide +kernel
theorem dX6_step_209 : decode cX6_step 209 = .ok (.iconst 1, 1) := by decide +kernel
theorem dX6_step_210 : decode cX6_step 210 = .ok (.iadd, 1) := by decide +kernel
theorem dX6_step_211 : decode cX6_step 211 = .ok (.putfield 69, 3) := by decide +kernel
theorem dX6_step_214 : decode cX6_step 214 = .ok (.goto (-74), 3) := by decide +kernel
theorem dX6_step_217 : decode cX6_step 217 = .ok (.aload_n 0, 1) := by decide +kernel
theorem dX6_step_218 : decode cX6_step 218 = .ok (.iconst 2, 1) := by decide +kernel
theorem dX6_step_219 : decode cX6_step 219 = .ok (.putfield 66, 3) := by decide +kernel
theorem dX6_step_222 : decode cX6_step 222 = .ok (.aload_n 0, 1) := by decide +kernel
theorem dX6_step_223 : decode cX6_step 223 = .ok (.getfield 69, 3) := by decide +kernel
theorem dX6_step_226 : decode cX6_step 226 = .ok (.aload_n 0, 1) := by decide +kernel
theorem dX6_step_227 : decode cX6_step 227 = .ok (.getfield 60, 3) := by decide +kernel
theorem dX6_step_230 : decode cX6_step 230 = .ok (.isub, 1) := by decide +kernel
theorem dX6_step_231 : decode cX6_step 231 = .ok (.iconst 2, 1) := by decide +kernel
theorem dX6_step_232 : decode cX6_step 232 = .ok (.if_icmp .le 37, 3) := by decide +kernel
theorem dX6_step_235 : decode cX6_step 235 = .ok (.aload_n 0, 1) := by decide +kernel
theorem dX6_step_236 : decode cX6_step 236 = .ok (.iconst 1, 1) := by decide +kernel
theorem dX6_step_237 : decode cX6_step 237 = .ok (.invokevirtual 87, 3) := by decide +kernel
theorem dX6_step_240 : decode cX6_step 240 = .ok (.goto 29, 3) := by decide +kernel
theorem dX6_step_243 : decode cX6_step 243 = .ok (.aload_n 0, 1) := by decide +kernel
theorem dX6_step_244 : decode cX6_step 244 = .ok (.iconst 3, 1) := by decide +kernel
theorem dX6_step_245 : decode cX6_step 245 = .ok (.putfield 66, 3) := by decide +kernel
theorem dX6_step_248 : decode cX6_step 248 = .ok (.aload_n 0, 1) := by decide +kernel
theorem dX6_step_249 : decode cX6_step 249 = .ok (.dup, 1) := by decide +kernel
theorem dX6_step_250 : decode cX6_step 250 = .ok (.getfield 69, 3) := by decide +kernel
theorem dX6_step_253 : decode cX6_step 253 = .ok (.iconst 1, 1) := by decide +kernel
theorem dX6_step_254 : decode cX6_step 254 = .ok (.iadd, 1) := by decide +kernel
theorem dX6_step_255 : decode cX6_step 255 = .ok (.putfield 69, 3) := by decide +kernel
theorem dX6_step_258 : decode cX6_step 258 = .ok (.iload_n 1, 1) := by decide +kernel
theorem dX6_step_259 : decode cX6_step 259 = .ok (.bipush 59, 2) := by decide +kernel
theorem dX6_step_261 : decode cX6_step 261 = .ok (.if_icmp .eq 8, 3) := by decide +kernel
theorem dX6_step_264 : decode cX6_step 264 = .ok (.aload_n 0, 1) := by decide +kernel
theorem dX6_step_265 : decode cX6_step 265 = .ok (.iconst 1, 1) := by decide +kernel
theorem dX6_step_266 : decode cX6_step 266 = .ok (.invokevirtual 87, 3) := by decide +kernel
theorem dX6_step_269 : decode cX6_step 269 = .ok (.return_, 1) := by decide +kernel
theorem dX6_other_0 : decode cX6_other 0 = .ok (.aload_n 0, 1) := by decide +kernel
theorem dX6_other_1 : decode cX6_other 1 = .ok (.getfield 57, 3) := by decide +kernel
theorem dX6_other_4 : decode cX6_other 4 = .ok (.ifCond .ne 16, 3) := by decide +kernel
theorem dX6_other_7 : decode cX6_other 7 = .ok (.aload_n 0, 1) := by decide +kernel
theorem dX6_other_8 : decode cX6_other 8 = .ok (.getfield 66, 3) := by decide +kernel
theorem dX6_other_11 : decode cX6_other 11 = .ok (.iconst 2, 1) := by decide +kernel
theorem dX6_other_12 : decode cX6_other 12 = .ok (.if_icmp .eq 8, 3) := by decide +kernel
theorem dX6_other_15 : decode cX6_other 15 = .ok (.aload_n 0, 1) := by decide +kernel
theorem dX6_other_16 : decode cX6_other 16 = .ok (.iconst 2, 1) := by decide +kernel
theorem dX6_other_17 : decode cX6_other 17 = .ok (.invokevirtual 87, 3) := by decide +kernel
theorem dX6_other_20 : decode cX6_other 20 = .ok (.aload_n 0, 1) := by decide +kernel
theorem dX6_other_21 : decode cX6_other 21 = .ok (.getfield 57, 3) := by decide +kernel
theorem dX6_other_24 : decode cX6_other 24 = .ok (.ifCond .ne 23, 3) := by decide +kernel
theorem dX6_other_27 : decode cX6_other 27 = .ok (.aload_n 0, 1) := by decide +kernel
theorem dX6_other_28 : decode cX6_other 28 = .ok (.getfield 76, 3) := by decide +kernel
theorem dX6_other_31 : decode cX6_other 31 = .ok (.i2l, 1) := by decide +kernel
theorem dX6_other_32 : decode cX6_other 32 = .ok (.iload_n 1, 1) := by decide +kernel
theorem dX6_other_33 : decode cX6_other 33 = .ok (.i2l, 1) := by decide +kernel
theorem dX6_other_34 : decode cX6_other 34 = .ok (.iload_n 2, 1) := by decide +kernel
theorem dX6_other_35 : decode cX6_other 35 = .ok (.i2l, 1) := by decide +kernel
theorem dX6_other_36 : decode cX6_other 36 = .ok (.invokestatic 49, 3) := by decide +kernel
theorem dX6_other_39 : decode cX6_other 39 = .ok (.ifCond .ne 8, 3) := by decide +kernel
theorem dX6_other_42 : decode cX6_other 42 = .ok (.aload_n 0, 1) := by decide +kernel
theorem dX6_other_43 : decode cX6_other 43 = .ok (.iconst 3, 1) := by decide +kernel
theorem dX6_other_44 : decode cX6_other 44 = .ok (.invokevirtual 87, 3) := by decide +kernel
theorem dX6_other_47 : decode cX6_other 47 = .ok (.aload_n 0, 1) := by decide +kernel
theorem dX6_other_48 : decode cX6_other 48 = .ok (.getfield 57, 3) := by decide +kernel
theorem dX6_other_51 : decode cX6_other 51 = .ok (.ifCond .ne 24, 3) := by decide +kernel
theorem dX6_other_54 : decode cX6_other 54 = .ok (.iload_n 3, 1) := by decide +kernel
theorem dX6_other_55 : decode cX6_other 55 = .ok (.ifCond .eq 20, 3) := by decide +kernel
theorem dX6_other_58 : decode cX6_other 58 = .ok (.iload_n 3, 1) := by decide +kernel
theorem dX6_other_59 : decode cX6_other 59 = .ok (.aload_n 0, 1) := by decide +kernel
theorem dX6_other_60 : decode cX6_other 60 = .ok (.getfield 76, 3) := by decide +kernel
theorem dX6_other_63 : decode cX6_other 63 = .ok (.ishr, 1) := by decide +kernel
theorem dX6_other_64 : decode cX6_other 64 = .ok (.iconst 1, 1) := by decide +kernel
theorem dX6_other_65 : decode cX6_other 65 = .ok (.iand, 1) := by decide +kernel
theorem dX6_other_66 : decode cX6_other 66 = .ok (.iconst 1, 1) := by decide +kernel
theorem dX6_other_67 : decode cX6_other 67 = .ok (.if_icmp .ne 8, 3) := by decide +kernel
theorem dX6_other_70 : decode cX6_other 70 = .ok (.aload_n 0, 1) := by decide +kernel
theorem dX6_other_71 : decode cX6_other 71 = .ok (.iconst 4, 1) := by decide +kernel
theorem dX6_other_72 : decode cX6_other 72 = .ok (.invokevirtual 87, 3) := by decide +kernel
theorem dX6_other_75 : decode cX6_other 75 = .ok (.aload_n 0, 1) := by decide +kernel
theorem dX6_other_76 : decode cX6_other 76 = .ok (.getfield 57, 3) := by decide +kernel
theorem dX6_other_79 : decode cX6_other 79 = .ok (.ifCond .ne 10, 3) := by decide +kernel
theorem dX6_other_82 : decode cX6_other 82 = .ok (.aload_n 0, 1) := by decide +kernel
theorem dX6_other_83 : decode cX6_other 83 = .ok (.getfield 76, 3) := by decide +kernel
theorem dX6_other_86 : decode cX6_other 86 = .ok (.goto 4, 3) := by decide +kernel
theorem dX6_other_89 : decode cX6_other 89 = .ok (.iload_n 1, 1) := by decide +kernel
theorem dX6_other_90 : decode cX6_other 90 = .ok (.istore 4, 2) := by decide +kernel
theorem dX6_other_92 : decode cX6_other 92 = .ok (.aload_n 0, 1) := by decide +kernel
theorem dX6_other_93 : decode cX6_other 93 = .ok (.invokevirtual 91, 3) := by decide +kernel
theorem dX6_other_96 : decode cX6_other 96 = .ok (.iload 4, 2) := by decide +kernel
theorem dX6_other_98 : decode cX6_other 98 = .ok (.ireturn, 1) := by decide +kernel
theorem dX6_wallHere_0 : decode cX6_wallHere 0 = .ok (.aload_n 0, 1) := by decide +kernel
theorem dX6_wallHere_1 : decode cX6_wallHere 1 = .ok (.iconst 0, 1) := by decide +kernel
theorem dX6_wallHere_2 : decode cX6_wallHere 2 = .ok (.bipush 8, 2) := by decide +kernel
theorem dX6_wallHere_4 : decode cX6_wallHere 4 = .ok (.iload_n 1, 1) := by decide +kernel
theorem dX6_wallHere_5 : decode cX6_wallHere 5 = .ok (.invokevirtual 94, 3) := by decide +kernel
theorem dX6_wallHere_8 : decode cX6_wallHere 8 = .ok (.istore_n 2, 1) := by decide +kernel
theorem dX6_wallHere_9 : decode cX6_wallHere 9 = .ok (.aload_n 0, 1) := by decide +kernel
theorem dX6_wallHere_10 : decode cX6_wallHere 10 = .ok (.iload_n 2, 1) := by decide +kernel
theorem dX6_wallHere_11 : decode cX6_wallHere 11 = .ok (.aload_n 0, 1) := by decide +kernel
theorem dX6_wallHere_12 : decode cX6_wallHere 12 = .ok (.getfield 98, 3) := by decide +kernel
theorem dX6_wallHere_15 : decode cX6_wallHere 15 = .ok (.if_icmp .le 7, 3) := by decide +kernel
theorem dX6_wallHere_18 : decode cX6_wallHere 18 = .ok (.iload_n 2, 1) := by decide +kernel
theorem dX6_wallHere_19 : decode cX6_wallHere 19 = .ok (.goto 7, 3) := by decide +kernel
theorem dX6_wallHere_22 : decode cX6_wallHere 22 = .ok (.aload_n 0, 1) := by decide +kernel
theorem dX6_wallHere_23 : decode cX6_wallHere 23 = .ok (.getfield 98, 3) := by decide +kernel
theorem dX6_wallHere_26 : decode cX6_wallHere 26 = .ok (.putfield 98, 3) := by decide +kernel
theorem dX6_wallHere_29 : decode cX6_wallHere 29 = .ok (.iload_n 2, 1) := by decide +kernel
theorem dX6_wallHere_30 : decode cX6_wallHere 30 = .ok (.ireturn, 1) := by decide +kernel
theorem dX6_readOne_0 : decode cX6_readOne 0 = .ok (.aload_n 0, 1) := by decide +kernel
theorem dX6_readOne_1 : decode cX6_readOne 1 = .ok (.getfield 13, 3) := by decide +kernel
theorem dX6_readOne_4 : decode cX6_readOne 4 = .ok (.aload_n 0, 1) := by decide +kernel
theorem dX6_readOne_5 : decode cX6_readOne 5 = .ok (.getfield 101, 3) := by decide +kernel
theorem dX6_readOne_8 : decode cX6_readOne 8 = .ok (.iload_n 1, 1) := by decide +kernel
theorem dX6_readOne_9 : decode cX6_readOne 9 = .ok (.iastore, 1) := by decide +kernel
theorem dX6_readOne_10 : decode cX6_readOne 10 = .ok (.aload_n 0, 1) := by decide +kernel
theorem dX6_readOne_11 : decode cX6_readOne 11 = .ok (.getfield 13, 3) := by decide +kernel
theorem dX6_readOne_14 : decode cX6_readOne 14 = .ok (.iconst 5, 1) := by decide +kernel
theorem dX6_readOne_15 : decode cX6_readOne 15 = .ok (.aload_n 0, 1) := by decide +kernel
theorem dX6_readOne_16 : decode cX6_readOne 16 = .ok (.getfield 101, 3) := by decide +kernel
theorem dX6_readOne_19 : decode cX6_readOne 19 = .ok (.iadd, 1) := by decide +kernel
theorem dX6_readOne_20 : decode cX6_readOne 20 = .ok (.aload_n 0, 1) := by decide +kernel
theorem dX6_readOne_21 : decode cX6_readOne 21 = .ok (.iconst 0, 1) := by decide +kernel
theorem dX6_readOne_22 : decode cX6_readOne 22 = .ok (.iconst 3, 1) := by decide +kernel
theorem dX6_readOne_23 : decode cX6_readOne 23 = .ok (.iconst 0, 1) := by decide +kernel
theorem dX6_readOne_24 : decode cX6_readOne 24 = .ok (.invokevirtual 94, 3) := by decide +kernel
theorem dX6_readOne_27 : decode cX6_readOne 27 = .ok (.iastore, 1) := by decide +kernel
theorem dX6_readOne_28 : decode cX6_readOne 28 = .ok (.aload_n 0, 1) := by decide +kernel
theorem dX6_readOne_29 : decode cX6_readOne 29 = .ok (.getfield 13, 3) := by decide +kernel
theorem dX6_readOne_32 : decode cX6_readOne 32 = .ok (.bipush 10, 2) := by decide +kernel
theorem dX6_readOne_34 : decode cX6_readOne 34 = .ok (.aload_n 0, 1) := by decide +kernel
theorem dX6_readOne_35 : decode cX6_readOne 35 = .ok (.getfield 101, 3) := by decide +kernel
theorem dX6_readOne_38 : decode cX6_readOne 38 = .ok (.iadd, 1) := by decide +kernel
theorem dX6_readOne_39 : decode cX6_readOne 39 = .ok (.aload_n 0, 1) := by decide +kernel
theorem dX6_readOne_40 : decode cX6_readOne 40 = .ok (.iconst 0, 1) := by decide +kernel
theorem dX6_readOne_41 : decode cX6_readOne 41 = .ok (.bipush 7, 2) := by decide +kernel
theorem dX6_readOne_43 : decode cX6_readOne 43 = .ok (.iconst 0, 1) := by decide +kernel
theorem dX6_readOne_44 : decode cX6_readOne 44 = .ok (.invokevirtual 94, 3) := by decide +kernel
theorem dX6_readOne_47 : decode cX6_readOne 47 = .ok (.iastore, 1) := by decide +kernel
theorem dX6_readOne_48 : decode cX6_readOne 48 = .ok (.aload_n 0, 1) := by decide +kernel
theorem dX6_readOne_49 : decode cX6_readOne 49 = .ok (.getfield 57, 3) := by decide +kernel
theorem dX6_readOne_52 : decode cX6_readOne 52 = .ok (.ifCond .ne 47, 3) := by decide +kernel
theorem dX6_readOne_55 : decode cX6_readOne 55 = .ok (.aload_n 0, 1) := by decide +kernel
theorem dX6_readOne_56 : decode cX6_readOne 56 = .ok (.getfield 66, 3) := by decide +kernel
theorem dX6_readOne_59 : decode cX6_readOne 59 = .ok (.iconst 2, 1) := by decide +kernel
theorem dX6_readOne_60 : decode cX6_readOne 60 = .ok (.if_icmp .ne 39, 3) := by decide +kernel
theorem dX6_readOne_63 : decode cX6_readOne 63 = .ok (.aload_n 0, 1) := by decide +kernel
theorem dX6_readOne_64 : decode cX6_readOne 64 = .ok (.aload_n 0, 1) := by decide +kernel
theorem dX6_readOne_65 : decode cX6_readOne 65 = .ok (.getfield 104, 3) := by decide +kernel
theorem dX6_readOne_68 : decode cX6_readOne 68 = .ok (.invokevirtual 107, 3) := by decide +kernel
theorem dX6_readOne_71 : decode cX6_readOne 71 = .ok (.istore_n 2, 1) := by decide +kernel
theorem dX6_readOne_72 : decode cX6_readOne 72 = .ok (.aload_n 0, 1) := by decide +kernel
theorem dX6_readOne_73 : decode cX6_readOne 73 = .ok (.dup, 1) := by decide +kernel
theorem dX6_readOne_74 : decode cX6_readOne 74 = .ok (.getfield 104, 3) := by decide +kernel
theorem dX6_readOne_77 : decode cX6_readOne 77 = .ok (.iconst 1, 1) := by decide +kernel
theorem dX6_readOne_78 : decode cX6_readOne 78 = .ok (.iload_n 2, 1) := by decide +kernel
theorem dX6_readOne_79 : decode cX6_readOne 79 = .ok (.ishl, 1) := by decide +kernel
theorem dX6_readOne_80 : decode cX6_readOne 80 = .ok (.ior, 1) := by decide +kernel
theorem dX6_readOne_81 : decode cX6_readOne 81 = .ok (.putfield 104, 3) := by decide +kernel
theorem dX6_readOne_84 : decode cX6_readOne 84 = .ok (.aload_n 0, 1) := by decide +kernel
theorem dX6_readOne_85 : decode cX6_readOne 85 = .ok (.getfield 13, 3) := by decide +kernel
theorem dX6_readOne_88 : decode cX6_readOne 88 = .ok (.bipush 15, 2) := by decide +kernel
theorem dX6_readOne_90 : decode cX6_readOne 90 = .ok (.aload_n 0, 1) := by decide +kernel
theorem dX6_readOne_91 : decode cX6_readOne 91 = .ok (.getfield 101, 3) := by decide +kernel
theorem dX6_readOne_94 : decode cX6_readOne 94 = .ok (.iadd, 1) := by decide +kernel
theorem dX6_readOne_95 : decode cX6_readOne 95 = .ok (.iload_n 2, 1) := by decide +kernel
theorem dX6_readOne_96 : decode cX6_readOne 96 = .ok (.iconst 1, 1) := by decide +kernel
theorem dX6_readOne_97 : decode cX6_readOne 97 = .ok (.iadd, 1) := by decide +kernel
theorem dX6_readOne_98 : decode cX6_readOne 98 = .ok (.iastore, 1) := by decide +kernel
theorem dX6_readOne_99 : decode cX6_readOne 99 = .ok (.aload_n 0, 1) := by decide +kernel
theorem dX6_readOne_100 : decode cX6_readOne 100 = .ok (.dup, 1) := by decide +kernel
theorem dX6_readOne_101 : decode cX6_readOne 101 = .ok (.getfield 101, 3) := by decide +kernel
theorem dX6_readOne_104 : decode cX6_readOne 104 = .ok (.iconst 1, 1) := by decide +kernel
theorem dX6_readOne_105 : decode cX6_readOne 105 = .ok (.iadd, 1) := by decide +kernel
theorem dX6_readOne_106 : decode cX6_readOne 106 = .ok (.putfield 101, 3) := by decide +kernel
theorem dX6_readOne_109 : decode cX6_readOne 109 = .ok (.return_, 1) := by decide +kernel
theorem dX6_readWall_0 : decode cX6_readWall 0 = .ok (.aload_n 0, 1) := by decide +kernel
theorem dX6_readWall_1 : decode cX6_readWall 1 = .ok (.getfield 13, 3) := by decide +kernel
theorem dX6_readWall_4 : decode cX6_readWall 4 = .ok (.bipush 25, 2) := by decide +kernel
theorem dX6_readWall_6 : decode cX6_readWall 6 = .ok (.iaload, 1) := by decide +kernel
theorem dX6_readWall_7 : decode cX6_readWall 7 = .ok (.istore_n 1, 1) := by decide +kernel
theorem dX6_readWall_8 : decode cX6_readWall 8 = .ok (.aload_n 0, 1) := by decide +kernel
theorem dX6_readWall_9 : decode cX6_readWall 9 = .ok (.getfield 13, 3) := by decide +kernel
theorem dX6_readWall_12 : decode cX6_readWall 12 = .ok (.bipush 26, 2) := by decide +kernel
theorem dX6_readWall_14 : decode cX6_readWall 14 = .ok (.iload_n 1, 1) := by decide +kernel
theorem dX6_readWall_15 : decode cX6_readWall 15 = .ok (.iadd, 1) := by decide +kernel
theorem dX6_readWall_16 : decode cX6_readWall 16 = .ok (.aload_n 0, 1) := by decide +kernel
theorem dX6_readWall_17 : decode cX6_readWall 17 = .ok (.iconst 0, 1) := by decide +kernel
theorem dX6_readWall_18 : decode cX6_readWall 18 = .ok (.bipush 7, 2) := by decide +kernel
theorem dX6_readWall_20 : decode cX6_readWall 20 = .ok (.iconst 0, 1) := by decide +kernel
theorem dX6_readWall_21 : decode cX6_readWall 21 = .ok (.invokevirtual 94, 3) := by decide +kernel
theorem dX6_readWall_24 : decode cX6_readWall 24 = .ok (.iastore, 1) := by decide +kernel
theorem dX6_readWall_25 : decode cX6_readWall 25 = .ok (.aload_n 0, 1) := by decide +kernel
theorem dX6_readWall_26 : decode cX6_readWall 26 = .ok (.getfield 57, 3) := by decide +kernel
theorem dX6_readWall_29 : decode cX6_readWall 29 = .ok (.ifCond .ne 32, 3) := by decide +kernel
theorem dX6_readWall_32 : decode cX6_readWall 32 = .ok (.aload_n 0, 1) := by decide +kernel
theorem dX6_readWall_33 : decode cX6_readWall 33 = .ok (.getfield 66, 3) := by decide +kernel
theorem dX6_readWall_36 : decode cX6_readWall 36 = .ok (.iconst 2, 1) := by decide +kernel
theorem dX6_readWall_37 : decode cX6_readWall 37 = .ok (.if_icmp .ne 24, 3) := by decide +kernel
theorem dX6_readWall_40 : decode cX6_readWall 40 = .ok (.aload_n 0, 1) := by decide +kernel
theorem dX6_readWall_41 : decode cX6_readWall 41 = .ok (.getfield 76, 3) := by decide +kernel
theorem dX6_readWall_44 : decode cX6_readWall 44 = .ok (.aload_n 0, 1) := by decide +kernel
theorem dX6_readWall_45 : decode cX6_readWall 45 = .ok (.getfield 13, 3) := by decide +kernel
theorem dX6_readWall_48 : decode cX6_readWall 48 = .ok (.bipush 26, 2) := by decide +kernel
theorem dX6_readWall_50 : decode cX6_readWall 50 = .ok (.iload_n 1, 1) := by decide +kernel
theorem dX6_readWall_51 : decode cX6_readWall 51 = .ok (.iadd, 1) := by decide +kernel
theorem dX6_readWall_52 : decode cX6_readWall 52 = .ok (.iaload, 1) := by decide +kernel
theorem dX6_readWall_53 : decode cX6_readWall 53 = .ok (.if_icmp .ne 8, 3) := by decide +kernel
theorem dX6_readWall_56 : decode cX6_readWall 56 = .ok (.aload_n 0, 1) := by decide +kernel
theorem dX6_readWall_57 : decode cX6_readWall 57 = .ok (.iconst 3, 1) := by decide +kernel
theorem dX6_readWall_58 : decode cX6_readWall 58 = .ok (.invokevirtual 87, 3) := by decide +kernel
theorem dX6_readWall_61 : decode cX6_readWall 61 = .ok (.aload_n 0, 1) := by decide +kernel
theorem dX6_readWall_62 : decode cX6_readWall 62 = .ok (.getfield 13, 3) := by decide +kernel
theorem dX6_readWall_65 : decode cX6_readWall 65 = .ok (.bipush 35, 2) := by decide +kernel
theorem dX6_readWall_67 : decode cX6_readWall 67 = .ok (.iload_n 1, 1) := by decide +kernel
theorem dX6_readWall_68 : decode cX6_readWall 68 = .ok (.iadd, 1) := by decide +kernel
theorem dX6_readWall_69 : decode cX6_readWall 69 = .ok (.aload_n 0, 1) := by decide +kernel
theorem dX6_readWall_70 : decode cX6_readWall 70 = .ok (.iconst 0, 1) := by decide +kernel
theorem dX6_readWall_71 : decode cX6_readWall 71 = .ok (.bipush 7, 2) := by decide +kernel
theorem dX6_readWall_73 : decode cX6_readWall 73 = .ok (.iconst 0, 1) := by decide +kernel
theorem dX6_readWall_74 : decode cX6_readWall 74 = .ok (.invokevirtual 94, 3) := by decide +kernel
theorem dX6_readWall_77 : decode cX6_readWall 77 = .ok (.iastore, 1) := by decide +kernel
theorem dX6_readWall_78 : decode cX6_readWall 78 = .ok (.aload_n 0, 1) := by decide +kernel
theorem dX6_readWall_79 : decode cX6_readWall 79 = .ok (.getfield 13, 3) := by decide +kernel
theorem dX6_readWall_82 : decode cX6_readWall 82 = .ok (.bipush 25, 2) := by decide +kernel
theorem dX6_readWall_84 : decode cX6_readWall 84 = .ok (.dup2, 1) := by decide +kernel
theorem dX6_readWall_85 : decode cX6_readWall 85 = .ok (.iaload, 1) := by decide +kernel
theorem dX6_readWall_86 : decode cX6_readWall 86 = .ok (.iconst 1, 1) := by decide +kernel
theorem dX6_readWall_87 : decode cX6_readWall 87 = .ok (.iadd, 1) := by decide +kernel
theorem dX6_readWall_88 : decode cX6_readWall 88 = .ok (.iastore, 1) := by decide +kernel
theorem dX6_readWall_89 : decode cX6_readWall 89 = .ok (.return_, 1) := by decide +kernel
theorem dX6_readPlan_0 : decode cX6_readPlan 0 = .ok (.aload_n 0, 1) := by decide +kernel
theorem dX6_readPlan_1 : decode cX6_readPlan 1 = .ok (.getfield 57, 3) := by decide +kernel
theorem dX6_readPlan_4 : decode cX6_readPlan 4 = .ok (.ifCond .ne 109, 3) := by decide +kernel
theorem dX6_readPlan_7 : decode cX6_readPlan 7 = .ok (.aload_n 0, 1) := by decide +kernel
theorem dX6_readPlan_8 : decode cX6_readPlan 8 = .ok (.getfield 66, 3) := by decide +kernel
theorem dX6_readPlan_11 : decode cX6_readPlan 11 = .ok (.iconst 2, 1) := by decide +kernel
theorem dX6_readPlan_12 : decode cX6_readPlan 12 = .ok (.if_icmp .ne 101, 3) := by decide +kernel
theorem dX6_readPlan_15 : decode cX6_readPlan 15 = .ok (.aload_n 0, 1) := by decide +kernel
theorem dX6_readPlan_16 : decode cX6_readPlan 16 = .ok (.getfield 13, 3) := by decide +kernel
theorem dX6_readPlan_19 : decode cX6_readPlan 19 = .ok (.bipush 52, 2) := by decide +kernel
theorem dX6_readPlan_21 : decode cX6_readPlan 21 = .ok (.iaload, 1) := by decide +kernel
theorem dX6_readPlan_22 : decode cX6_readPlan 22 = .ok (.bipush 6, 2) := by decide +kernel
theorem dX6_readPlan_24 : decode cX6_readPlan 24 = .ok (.if_icmp .ne 11, 3) := by decide +kernel
theorem dX6_readPlan_27 : decode cX6_readPlan 27 = .ok (.aload_n 0, 1) := by decide +kernel
theorem dX6_readPlan_28 : decode cX6_readPlan 28 = .ok (.iconst 5, 1) := by decide +kernel
theorem dX6_readPlan_29 : decode cX6_readPlan 29 = .ok (.invokevirtual 87, 3) := by decide +kernel
theorem dX6_readPlan_32 : decode cX6_readPlan 32 = .ok (.goto (-32), 3) := by decide +kernel
theorem dX6_readPlan_35 : decode cX6_readPlan 35 = .ok (.aload_n 0, 1) := by decide +kernel
theorem dX6_readPlan_36 : decode cX6_readPlan 36 = .ok (.iconst 0, 1) := by decide +kernel
theorem dX6_readPlan_37 : decode cX6_readPlan 37 = .ok (.iconst 4, 1) := by decide +kernel
theorem dX6_readPlan_38 : decode cX6_readPlan 38 = .ok (.iconst 0, 1) := by decide +kernel
theorem dX6_readPlan_39 : decode cX6_readPlan 39 = .ok (.invokevirtual 94, 3) := by decide +kernel
theorem dX6_readPlan_42 : decode cX6_readPlan 42 = .ok (.istore_n 1, 1) := by decide +kernel
theorem dX6_readPlan_43 : decode cX6_readPlan 43 = .ok (.aload_n 0, 1) := by decide +kernel
theorem dX6_readPlan_44 : decode cX6_readPlan 44 = .ok (.iload_n 1, 1) := by decide +kernel
theorem dX6_readPlan_45 : decode cX6_readPlan 45 = .ok (.aload_n 0, 1) := by decide +kernel
theorem dX6_readPlan_46 : decode cX6_readPlan 46 = .ok (.getfield 110, 3) := by decide +kernel
theorem dX6_readPlan_49 : decode cX6_readPlan 49 = .ok (.if_icmp .le 7, 3) := by decide +kernel
theorem dX6_readPlan_52 : decode cX6_readPlan 52 = .ok (.iload_n 1, 1) := by decide +kernel
theorem dX6_readPlan_53 : decode cX6_readPlan 53 = .ok (.goto 7, 3) := by decide +kernel
theorem dX6_readPlan_56 : decode cX6_readPlan 56 = .ok (.aload_n 0, 1) := by decide +kernel
theorem dX6_readPlan_57 : decode cX6_readPlan 57 = .ok (.getfield 110, 3) := by decide +kernel
theorem dX6_readPlan_60 : decode cX6_readPlan 60 = .ok (.putfield 110, 3) := by decide +kernel
theorem dX6_readPlan_63 : decode cX6_readPlan 63 = .ok (.aload_n 0, 1) := by decide +kernel
theorem dX6_readPlan_64 : decode cX6_readPlan 64 = .ok (.getfield 13, 3) := by decide +kernel
theorem dX6_readPlan_67 : decode cX6_readPlan 67 = .ok (.bipush 53, 2) := by decide +kernel
theorem dX6_readPlan_69 : decode cX6_readPlan 69 = .ok (.aload_n 0, 1) := by decide +kernel
theorem dX6_readPlan_70 : decode cX6_readPlan 70 = .ok (.getfield 13, 3) := by decide +kernel
theorem dX6_readPlan_73 : decode cX6_readPlan 73 = .ok (.bipush 52, 2) := by decide +kernel
theorem dX6_readPlan_75 : decode cX6_readPlan 75 = .ok (.iaload, 1) := by decide +kernel
theorem dX6_readPlan_76 : decode cX6_readPlan 76 = .ok (.iadd, 1) := by decide +kernel
theorem dX6_readPlan_77 : decode cX6_readPlan 77 = .ok (.iload_n 1, 1) := by decide +kernel
theorem dX6_readPlan_78 : decode cX6_readPlan 78 = .ok (.iastore, 1) := by decide +kernel
theorem dX6_readPlan_79 : decode cX6_readPlan 79 = .ok (.aload_n 0, 1) := by decide +kernel
theorem dX6_readPlan_80 : decode cX6_readPlan 80 = .ok (.getfield 13, 3) := by decide +kernel
theorem dX6_readPlan_83 : decode cX6_readPlan 83 = .ok (.bipush 59, 2) := by decide +kernel
theorem dX6_readPlan_85 : decode cX6_readPlan 85 = .ok (.aload_n 0, 1) := by decide +kernel
theorem dX6_readPlan_86 : decode cX6_readPlan 86 = .ok (.getfield 13, 3) := by decide +kernel
theorem dX6_readPlan_89 : decode cX6_readPlan 89 = .ok (.bipush 52, 2) := by decide +kernel
theorem dX6_readPlan_91 : decode cX6_readPlan 91 = .ok (.iaload, 1) := by decide +kernel
theorem dX6_readPlan_92 : decode cX6_readPlan 92 = .ok (.iadd, 1) := by decide +kernel
theorem dX6_readPlan_93 : decode cX6_readPlan 93 = .ok (.aload_n 0, 1) := by decide +kernel
theorem dX6_readPlan_94 : decode cX6_readPlan 94 = .ok (.iconst 0, 1) := by decide +kernel
theorem dX6_readPlan_95 : decode cX6_readPlan 95 = .ok (.invokevirtual 107, 3) := by decide +kernel
theorem dX6_readPlan_98 : decode cX6_readPlan 98 = .ok (.iastore, 1) := by decide +kernel
theorem dX6_readPlan_99 : decode cX6_readPlan 99 = .ok (.aload_n 0, 1) := by decide +kernel
theorem dX6_readPlan_100 : decode cX6_readPlan 100 = .ok (.getfield 13, 3) := by decide +kernel
theorem dX6_readPlan_103 : decode cX6_readPlan 103 = .ok (.bipush 52, 2) := by decide +kernel
theorem dX6_readPlan_105 : decode cX6_readPlan 105 = .ok (.dup2, 1) := by decide +kernel
theorem dX6_readPlan_106 : decode cX6_readPlan 106 = .ok (.iaload, 1) := by decide +kernel
theorem dX6_readPlan_107 : decode cX6_readPlan 107 = .ok (.iconst 1, 1) := by decide +kernel
theorem dX6_readPlan_108 : decode cX6_readPlan 108 = .ok (.iadd, 1) := by decide +kernel
theorem dX6_readPlan_109 : decode cX6_readPlan 109 = .ok (.iastore, 1) := by decide +kernel
theorem dX6_readPlan_110 : decode cX6_readPlan 110 = .ok (.goto (-110), 3) := by decide +kernel
theorem dX6_readPlan_113 : decode cX6_readPlan 113 = .ok (.return_, 1) := by decide +kernel
theorem dX6_readMore_0 : decode cX6_readMore 0 = .ok (.iload_n 1, 1) := by decide +kernel
theorem dX6_readMore_1 : decode cX6_readMore 1 = .ok (.iconst 3, 1) := by decide +kernel
theorem dX6_readMore_2 : decode cX6_readMore 2 = .ok (.if_icmp .gt 11, 3) := by decide +kernel
theorem dX6_readMore_5 : decode cX6_readMore 5 = .ok (.aload_n 0, 1) := by decide +kernel
theorem dX6_readMore_6 : decode cX6_readMore 6 = .ok (.iload_n 1, 1) := by decide +kernel
theorem dX6_readMore_7 : decode cX6_readMore 7 = .ok (.invokevirtual 113, 3) := by decide +kernel
theorem dX6_readMore_10 : decode cX6_readMore 10 = .ok (.goto 68, 3) := by decide +kernel
theorem dX6_readMore_13 : decode cX6_readMore 13 = .ok (.iload_n 1, 1) := by decide +kernel
theorem dX6_readMore_14 : decode cX6_readMore 14 = .ok (.iconst 4, 1) := by decide +kernel
theorem dX6_readMore_15 : decode cX6_readMore 15 = .ok (.if_icmp .ne 10, 3) := by decide +kernel
theorem dX6_readMore_18 : decode cX6_readMore 18 = .ok (.aload_n 0, 1) := by decide +kernel
theorem dX6_readMore_19 : decode cX6_readMore 19 = .ok (.invokevirtual 116, 3) := by decide +kernel
theorem dX6_readMore_22 : decode cX6_readMore 22 = .ok (.goto 56, 3) := by decide +kernel
theorem dX6_readMore_25 : decode cX6_readMore 25 = .ok (.iload_n 1, 1) := by decide +kernel
theorem dX6_readMore_26 : decode cX6_readMore 26 = .ok (.iconst 5, 1) := by decide +kernel
theorem dX6_readMore_27 : decode cX6_readMore 27 = .ok (.if_icmp .ne 47, 3) := by decide +kernel
theorem dX6_readMore_30 : decode cX6_readMore 30 = .ok (.aload_n 0, 1) := by decide +kernel
theorem dX6_readMore_31 : decode cX6_readMore 31 = .ok (.iconst 0, 1) := by decide +kernel
theorem dX6_readMore_32 : decode cX6_readMore 32 = .ok (.bipush 7, 2) := by decide +kernel
theorem dX6_readMore_34 : decode cX6_readMore 34 = .ok (.aload_n 0, 1) := by decide +kernel
theorem dX6_readMore_35 : decode cX6_readMore 35 = .ok (.getfield 119, 3) := by decide +kernel
theorem dX6_readMore_38 : decode cX6_readMore 38 = .ok (.invokevirtual 94, 3) := by decide +kernel
theorem dX6_readMore_41 : decode cX6_readMore 41 = .ok (.istore_n 2, 1) := by decide +kernel
theorem dX6_readMore_42 : decode cX6_readMore 42 = .ok (.aload_n 0, 1) := by decide +kernel
theorem dX6_readMore_43 : decode cX6_readMore 43 = .ok (.dup, 1) := by decide +kernel
theorem dX6_readMore_44 : decode cX6_readMore 44 = .ok (.getfield 119, 3) := by decide +kernel
theorem dX6_readMore_47 : decode cX6_readMore 47 = .ok (.iconst 1, 1) := by decide +kernel
theorem dX6_readMore_48 : decode cX6_readMore 48 = .ok (.iload_n 2, 1) := by decide +kernel
theorem dX6_readMore_49 : decode cX6_readMore 49 = .ok (.ishl, 1) := by decide +kernel
theorem dX6_readMore_50 : decode cX6_readMore 50 = .ok (.ior, 1) := by decide +kernel
theorem dX6_readMore_51 : decode cX6_readMore 51 = .ok (.putfield 119, 3) := by decide +kernel
theorem dX6_readMore_54 : decode cX6_readMore 54 = .ok (.aload_n 0, 1) := by decide +kernel
theorem dX6_readMore_55 : decode cX6_readMore 55 = .ok (.getfield 13, 3) := by decide +kernel
theorem dX6_readMore_58 : decode cX6_readMore 58 = .ok (.bipush 44, 2) := by decide +kernel
theorem dX6_readMore_60 : decode cX6_readMore 60 = .ok (.iload_n 2, 1) := by decide +kernel
theorem dX6_readMore_61 : decode cX6_readMore 61 = .ok (.iadd, 1) := by decide +kernel
theorem dX6_readMore_62 : decode cX6_readMore 62 = .ok (.aload_n 0, 1) := by decide +kernel
theorem dX6_readMore_63 : decode cX6_readMore 63 = .ok (.iconst 0, 1) := by decide +kernel
theorem dX6_readMore_64 : decode cX6_readMore 64 = .ok (.bipush 99, 2) := by decide +kernel
theorem dX6_readMore_66 : decode cX6_readMore 66 = .ok (.iconst 0, 1) := by decide +kernel
theorem dX6_readMore_67 : decode cX6_readMore 67 = .ok (.invokevirtual 94, 3) := by decide +kernel
theorem dX6_readMore_70 : decode cX6_readMore 70 = .ok (.iastore, 1) := by decide +kernel
theorem dX6_readMore_71 : decode cX6_readMore 71 = .ok (.goto 7, 3) := by decide +kernel
theorem dX6_readMore_74 : decode cX6_readMore 74 = .ok (.aload_n 0, 1) := by decide +kernel
theorem dX6_readMore_75 : decode cX6_readMore 75 = .ok (.invokevirtual 122, 3) := by decide +kernel
theorem dX6_readMore_78 : decode cX6_readMore 78 = .ok (.return_, 1) := by decide +kernel
theorem dX6_readLine_0 : decode cX6_readLine 0 = .ok (.aload_n 0, 1) := by decide +kernel
theorem dX6_readLine_1 : decode cX6_readLine 1 = .ok (.invokevirtual 125, 3) := by decide +kernel
theorem dX6_readLine_4 : decode cX6_readLine 4 = .ok (.istore_n 1, 1) := by decide +kernel
theorem dX6_readLine_5 : decode cX6_readLine 5 = .ok (.iload_n 1, 1) := by decide +kernel
theorem dX6_readLine_6 : decode cX6_readLine 6 = .ok (.i2l, 1) := by decide +kernel
theorem dX6_readLine_7 : decode cX6_readLine 7 = .ok (.lconst 0, 1) := by decide +kernel
theorem dX6_readLine_8 : decode cX6_readLine 8 = .ok (.ldc2_w 129, 3) := by decide +kernel
theorem dX6_readLine_11 : decode cX6_readLine 11 = .ok (.invokestatic 49, 3) := by decide +kernel
theorem dX6_readLine_14 : decode cX6_readLine 14 = .ok (.ifCond .ne 9, 3) := by decide +kernel
theorem dX6_readLine_17 : decode cX6_readLine 17 = .ok (.aload_n 0, 1) := by decide +kernel
theorem dX6_readLine_18 : decode cX6_readLine 18 = .ok (.iconst 2, 1) := by decide +kernel
theorem dX6_readLine_19 : decode cX6_readLine 19 = .ok (.invokevirtual 87, 3) := by decide +kernel
theorem dX6_readLine_22 : decode cX6_readLine 22 = .ok (.return_, 1) := by decide +kernel
theorem dX6_readLine_23 : decode cX6_readLine 23 = .ok (.iload_n 1, 1) := by decide +kernel
theorem dX6_readLine_24 : decode cX6_readLine 24 = .ok (.iconst 3, 1) := by decide +kernel
theorem dX6_readLine_25 : decode cX6_readLine 25 = .ok (.if_icmp .gt 11, 3) := by decide +kernel
theorem dX6_readLine_28 : decode cX6_readLine 28 = .ok (.aload_n 0, 1) := by decide +kernel
theorem dX6_readLine_29 : decode cX6_readLine 29 = .ok (.getfield 101, 3) := by decide +kernel
theorem dX6_readLine_32 : decode cX6_readLine 32 = .ok (.iconst 5, 1) := by decide +kernel
theorem dX6_readLine_33 : decode cX6_readLine 33 = .ok (.if_icmp .eq 20, 3) := by decide +kernel
theorem dX6_readLine_36 : decode cX6_readLine 36 = .ok (.iload_n 1, 1) := by decide +kernel
theorem dX6_readLine_37 : decode cX6_readLine 37 = .ok (.iconst 4, 1) := by decide +kernel
theorem dX6_readLine_38 : decode cX6_readLine 38 = .ok (.if_icmp .ne 20, 3) := by decide +kernel
theorem dX6_readLine_41 : decode cX6_readLine 41 = .ok (.aload_n 0, 1) := by decide +kernel
theorem dX6_readLine_42 : decode cX6_readLine 42 = .ok (.getfield 13, 3) := by decide +kernel
theorem dX6_readLine_45 : decode cX6_readLine 45 = .ok (.bipush 25, 2) := by decide +kernel
theorem dX6_readLine_47 : decode cX6_readLine 47 = .ok (.iaload, 1) := by decide +kernel
theorem dX6_readLine_48 : decode cX6_readLine 48 = .ok (.bipush 9, 2) := by decide +kernel
theorem dX6_readLine_50 : decode cX6_readLine 50 = .ok (.if_icmp .ne 8, 3) := by decide +kernel
theorem dX6_readLine_53 : decode cX6_readLine 53 = .ok (.aload_n 0, 1) := by decide +kernel
theorem dX6_readLine_54 : decode cX6_readLine 54 = .ok (.iconst 5, 1) := by decide +kernel
theorem dX6_readLine_55 : decode cX6_readLine 55 = .ok (.invokevirtual 87, 3) := by decide +kernel
theorem dX6_readLine_58 : decode cX6_readLine 58 = .ok (.iload_n 1, 1) := by decide +kernel
theorem dX6_readLine_59 : decode cX6_readLine 59 = .ok (.bipush 6, 2) := by decide +kernel
theorem dX6_readLine_61 : decode cX6_readLine 61 = .ok (.if_icmp .ne 15, 3) := by decide +kernel
theorem dX6_readLine_64 : decode cX6_readLine 64 = .ok (.aload_n 0, 1) := by decide +kernel
theorem dX6_readLine_65 : decode cX6_readLine 65 = .ok (.getfield 131, 3) := by decide +kernel
theorem dX6_readLine_68 : decode cX6_readLine 68 = .ok (.ifCond .eq 8, 3) := by decide +kernel
theorem dX6_readLine_71 : decode cX6_readLine 71 = .ok (.aload_n 0, 1) := by decide +kernel
theorem dX6_readLine_72 : decode cX6_readLine 72 = .ok (.iconst 4, 1) := by decide +kernel
theorem dX6_readLine_73 : decode cX6_readLine 73 = .ok (.invokevirtual 87, 3) := by decide +kernel
theorem dX6_readLine_76 : decode cX6_readLine 76 = .ok (.aload_n 0, 1) := by decide +kernel
theorem dX6_readLine_77 : decode cX6_readLine 77 = .ok (.aload_n 0, 1) := by decide +kernel
theorem dX6_readLine_78 : decode cX6_readLine 78 = .ok (.getfield 131, 3) := by decide +kernel
theorem dX6_readLine_81 : decode cX6_readLine 81 = .ok (.ifCond .ne 9, 3) := by decide +kernel
theorem dX6_readLine_84 : decode cX6_readLine 84 = .ok (.iload_n 1, 1) := by decide +kernel
theorem dX6_readLine_85 : decode cX6_readLine 85 = .ok (.bipush 6, 2) := by decide +kernel
theorem dX6_readLine_87 : decode cX6_readLine 87 = .ok (.if_icmp .ne 7, 3) := by decide +kernel
theorem dX6_readLine_90 : decode cX6_readLine 90 = .ok (.iconst 1, 1) := by decide +kernel
theorem dX6_readLine_91 : decode cX6_readLine 91 = .ok (.goto 4, 3) := by decide +kernel
theorem dX6_readLine_94 : decode cX6_readLine 94 = .ok (.iconst 0, 1) := by decide +kernel
theorem dX6_readLine_95 : decode cX6_readLine 95 = .ok (.putfield 131, 3) := by decide +kernel
theorem dX6_readLine_98 : decode cX6_readLine 98 = .ok (.aload_n 0, 1) := by decide +kernel
theorem dX6_readLine_99 : decode cX6_readLine 99 = .ok (.invokevirtual 91, 3) := by decide +kernel
theorem dX6_readLine_102 : decode cX6_readLine 102 = .ok (.aload_n 0, 1) := by decide +kernel
theorem dX6_readLine_103 : decode cX6_readLine 103 = .ok (.getfield 57, 3) := by decide +kernel
theorem dX6_readLine_106 : decode cX6_readLine 106 = .ok (.ifCond .le 4, 3) := by decide +kernel
theorem dX6_readLine_109 : decode cX6_readLine 109 = .ok (.return_, 1) := by decide +kernel
theorem dX6_readLine_110 : decode cX6_readLine 110 = .ok (.aload_n 0, 1) := by decide +kernel
theorem dX6_readLine_111 : decode cX6_readLine 111 = .ok (.iload_n 1, 1) := by decide +kernel
theorem dX6_readLine_112 : decode cX6_readLine 112 = .ok (.invokevirtual 135, 3) := by decide +kernel
theorem dX6_readLine_115 : decode cX6_readLine 115 = .ok (.aload_n 0, 1) := by decide +kernel
theorem dX6_readLine_116 : decode cX6_readLine 116 = .ok (.getfield 57, 3) := by decide +kernel
theorem dX6_readLine_119 : decode cX6_readLine 119 = .ok (.ifCond .ne 16, 3) := by decide +kernel
theorem dX6_readLine_122 : decode cX6_readLine 122 = .ok (.aload_n 0, 1) := by decide +kernel
theorem dX6_readLine_123 : decode cX6_readLine 123 = .ok (.getfield 66, 3) := by decide +kernel
theorem dX6_readLine_126 : decode cX6_readLine 126 = .ok (.iconst 3, 1) := by decide +kernel
theorem dX6_readLine_127 : decode cX6_readLine 127 = .ok (.if_icmp .eq 8, 3) := by decide +kernel
theorem dX6_readLine_130 : decode cX6_readLine 130 = .ok (.aload_n 0, 1) := by decide +kernel
theorem dX6_readLine_131 : decode cX6_readLine 131 = .ok (.iconst 2, 1) := by decide +kernel
theorem dX6_readLine_132 : decode cX6_readLine 132 = .ok (.invokevirtual 87, 3) := by decide +kernel
theorem dX6_readLine_135 : decode cX6_readLine 135 = .ok (.aload_n 0, 1) := by decide +kernel
theorem dX6_readLine_136 : decode cX6_readLine 136 = .ok (.invokevirtual 91, 3) := by decide +kernel
theorem dX6_readLine_139 : decode cX6_readLine 139 = .ok (.return_, 1) := by decide +kernel
theorem dX6_text_0 : decode cX6_text 0 = .ok (.aload_n 0, 1) := by decide +kernel
theorem dX6_text_1 : decode cX6_text 1 = .ok (.iconst 0, 1) := by decide +kernel
theorem dX6_text_2 : decode cX6_text 2 = .ok (.putfield 57, 3) := by decide +kernel
theorem dX6_text_5 : decode cX6_text 5 = .ok (.aload_n 0, 1) := by decide +kernel
theorem dX6_text_6 : decode cX6_text 6 = .ok (.iconst 0, 1) := by decide +kernel
theorem dX6_text_7 : decode cX6_text 7 = .ok (.putfield 69, 3) := by decide +kernel
theorem dX6_text_10 : decode cX6_text 10 = .ok (.aload_n 0, 1) := by decide +kernel
theorem dX6_text_11 : decode cX6_text 11 = .ok (.iconst 0, 1) := by decide +kernel
theorem dX6_text_12 : decode cX6_text 12 = .ok (.putfield 101, 3) := by decide +kernel
theorem dX6_text_15 : decode cX6_text 15 = .ok (.aload_n 0, 1) := by decide +kernel
theorem dX6_text_16 : decode cX6_text 16 = .ok (.iconst 0, 1) := by decide +kernel
theorem dX6_text_17 : decode cX6_text 17 = .ok (.putfield 104, 3) := by decide +kernel
theorem dX6_text_20 : decode cX6_text 20 = .ok (.aload_n 0, 1) := by decide +kernel
theorem dX6_text_21 : decode cX6_text 21 = .ok (.iconst 0, 1) := by decide +kernel
theorem dX6_text_22 : decode cX6_text 22 = .ok (.putfield 119, 3) := by decide +kernel
theorem dX6_text_25 : decode cX6_text 25 = .ok (.aload_n 0, 1) := by decide +kernel
theorem dX6_text_26 : decode cX6_text 26 = .ok (.iconst 0, 1) := by decide +kernel
theorem dX6_text_27 : decode cX6_text 27 = .ok (.putfield 131, 3) := by decide +kernel
theorem dX6_text_30 : decode cX6_text 30 = .ok (.aload_n 0, 1) := by decide +kernel
theorem dX6_text_31 : decode cX6_text 31 = .ok (.iconst (-1), 1) := by decide +kernel
theorem dX6_text_32 : decode cX6_text 32 = .ok (.putfield 110, 3) := by decide +kernel
theorem dX6_text_35 : decode cX6_text 35 = .ok (.aload_n 0, 1) := by decide +kernel
theorem dX6_text_36 : decode cX6_text 36 = .ok (.iconst (-1), 1) := by decide +kernel
theorem dX6_text_37 : decode cX6_text 37 = .ok (.putfield 98, 3) := by decide +kernel
theorem dX6_text_40 : decode cX6_text 40 = .ok (.iconst 0, 1) := by decide +kernel
theorem dX6_text_41 : decode cX6_text 41 = .ok (.istore_n 1, 1) := by decide +kernel
theorem dX6_text_42 : decode cX6_text 42 = .ok (.iconst 0, 1) := by decide +kernel
theorem dX6_text_43 : decode cX6_text 43 = .ok (.istore_n 2, 1) := by decide +kernel
theorem dX6_text_44 : decode cX6_text 44 = .ok (.iload_n 2, 1) := by decide +kernel
theorem dX6_text_45 : decode cX6_text 45 = .ok (.bipush 65, 2) := by decide +kernel
theorem dX6_text_47 : decode cX6_text 47 = .ok (.if_icmp .ge 16, 3) := by decide +kernel
theorem dX6_text_50 : decode cX6_text 50 = .ok (.aload_n 0, 1) := by decide +kernel
theorem dX6_text_51 : decode cX6_text 51 = .ok (.getfield 13, 3) := by decide +kernel
theorem dX6_text_54 : decode cX6_text 54 = .ok (.iload_n 2, 1) := by decide +kernel
theorem dX6_text_55 : decode cX6_text 55 = .ok (.iconst 0, 1) := by decide +kernel
theorem dX6_text_56 : decode cX6_text 56 = .ok (.iastore, 1) := by decide +kernel
theorem dX6_text_57 : decode cX6_text 57 = .ok (.iinc 2 1, 3) := by decide +kernel
theorem dX6_text_60 : decode cX6_text 60 = .ok (.goto (-16), 3) := by decide +kernel
theorem dX6_text_63 : decode cX6_text 63 = .ok (.aload_n 0, 1) := by decide +kernel
theorem dX6_text_64 : decode cX6_text 64 = .ok (.invokevirtual 91, 3) := by decide +kernel
theorem dX6_text_67 : decode cX6_text 67 = .ok (.aload_n 0, 1) := by decide +kernel
theorem dX6_text_68 : decode cX6_text 68 = .ok (.getfield 57, 3) := by decide +kernel
theorem dX6_text_71 : decode cX6_text 71 = .ok (.ifCond .ne 20, 3) := by decide +kernel
theorem dX6_text_74 : decode cX6_text 74 = .ok (.aload_n 0, 1) := by decide +kernel
theorem dX6_text_75 : decode cX6_text 75 = .ok (.getfield 66, 3) := by decide +kernel
theorem dX6_text_78 : decode cX6_text 78 = .ok (.ifCond .eq 13, 3) := by decide +kernel
theorem dX6_text_81 : decode cX6_text 81 = .ok (.aload_n 0, 1) := by decide +kernel
theorem dX6_text_82 : decode cX6_text 82 = .ok (.invokevirtual 138, 3) := by decide +kernel
theorem dX6_text_85 : decode cX6_text 85 = .ok (.iinc 1 1, 3) := by decide +kernel
theorem dX6_text_88 : decode cX6_text 88 = .ok (.goto (-21), 3) := by decide +kernel
theorem dX6_text_91 : decode cX6_text 91 = .ok (.aload_n 0, 1) := by decide +kernel
theorem dX6_text_92 : decode cX6_text 92 = .ok (.getfield 57, 3) := by decide +kernel
theorem dX6_text_95 : decode cX6_text 95 = .ok (.ifCond .ne 34, 3) := by decide +kernel
theorem dX6_text_98 : decode cX6_text 98 = .ok (.aload_n 0, 1) := by decide +kernel
theorem dX6_text_99 : decode cX6_text 99 = .ok (.getfield 110, 3) := by decide +kernel
theorem dX6_text_102 : decode cX6_text 102 = .ok (.aload_n 0, 1) := by decide +kernel
theorem dX6_text_103 : decode cX6_text 103 = .ok (.getfield 101, 3) := by decide +kernel
theorem dX6_text_106 : decode cX6_text 106 = .ok (.if_icmp .ge 17, 3) := by decide +kernel
theorem dX6_text_109 : decode cX6_text 109 = .ok (.aload_n 0, 1) := by decide +kernel
theorem dX6_text_110 : decode cX6_text 110 = .ok (.getfield 98, 3) := by decide +kernel
theorem dX6_text_113 : decode cX6_text 113 = .ok (.aload_n 0, 1) := by decide +kernel
theorem dX6_text_114 : decode cX6_text 114 = .ok (.getfield 13, 3) := by decide +kernel
theorem dX6_text_117 : decode cX6_text 117 = .ok (.bipush 25, 2) := by decide +kernel
theorem dX6_text_119 : decode cX6_text 119 = .ok (.iaload, 1) := by decide +kernel
theorem dX6_text_120 : decode cX6_text 120 = .ok (.if_icmp .lt 9, 3) := by decide +kernel
theorem dX6_text_123 : decode cX6_text 123 = .ok (.aload_n 0, 1) := by decide +kernel
theorem dX6_text_124 : decode cX6_text 124 = .ok (.bipush 6, 2) := by decide +kernel
theorem dX6_text_126 : decode cX6_text 126 = .ok (.invokevirtual 87, 3) := by decide +kernel
theorem dX6_text_129 : decode cX6_text 129 = .ok (.aload_n 0, 1) := by decide +kernel
theorem dX6_text_130 : decode cX6_text 130 = .ok (.iconst 0, 1) := by decide +kernel
theorem dX6_text_131 : decode cX6_text 131 = .ok (.putfield 53, 3) := by decide +kernel
theorem dX6_text_134 : decode cX6_text 134 = .ok (.aload_n 0, 1) := by decide +kernel
theorem dX6_text_135 : decode cX6_text 135 = .ok (.aload_n 0, 1) := by decide +kernel
theorem dX6_text_136 : decode cX6_text 136 = .ok (.getfield 57, 3) := by decide +kernel
theorem dX6_text_139 : decode cX6_text 139 = .ok (.putfield 141, 3) := by decide +kernel
theorem dX6_text_142 : decode cX6_text 142 = .ok (.aload_n 0, 1) := by decide +kernel
theorem dX6_text_143 : decode cX6_text 143 = .ok (.getfield 57, 3) := by decide +kernel
theorem dX6_text_146 : decode cX6_text 146 = .ok (.ifCond .le 11, 3) := by decide +kernel
theorem dX6_text_149 : decode cX6_text 149 = .ok (.bipush (-10), 2) := by decide +kernel
theorem dX6_text_151 : decode cX6_text 151 = .ok (.aload_n 0, 1) := by decide +kernel
theorem dX6_text_152 : decode cX6_text 152 = .ok (.getfield 63, 3) := by decide +kernel
theorem dX6_text_155 : decode cX6_text 155 = .ok (.isub, 1) := by decide +kernel
theorem dX6_text_156 : decode cX6_text 156 = .ok (.ireturn, 1) := by decide +kernel
theorem dX6_text_157 : decode cX6_text 157 = .ok (.iconst 0, 1) := by decide +kernel
theorem dX6_text_158 : decode cX6_text 158 = .ok (.istore_n 2, 1) := by decide +kernel
theorem dX6_text_159 : decode cX6_text 159 = .ok (.iload_n 2, 1) := by decide +kernel
theorem dX6_text_160 : decode cX6_text 160 = .ok (.bipush 65, 2) := by decide +kernel
theorem dX6_text_162 : decode cX6_text 162 = .ok (.if_icmp .ge 21, 3) := by decide +kernel
theorem dX6_text_165 : decode cX6_text 165 = .ok (.aload_n 0, 1) := by decide +kernel
theorem dX6_text_166 : decode cX6_text 166 = .ok (.getfield 7, 3) := by decide +kernel
theorem dX6_text_169 : decode cX6_text 169 = .ok (.iload_n 2, 1) := by decide +kernel
theorem dX6_text_170 : decode cX6_text 170 = .ok (.aload_n 0, 1) := by decide +kernel
theorem dX6_text_171 : decode cX6_text 171 = .ok (.getfield 13, 3) := by decide +kernel
theorem dX6_text_174 : decode cX6_text 174 = .ok (.iload_n 2, 1) := by decide +kernel
theorem dX6_text_175 : decode cX6_text 175 = .ok (.iaload, 1) := by decide +kernel
theorem dX6_text_176 : decode cX6_text 176 = .ok (.iastore, 1) := by decide +kernel
theorem dX6_text_177 : decode cX6_text 177 = .ok (.iinc 2 1, 3) := by decide +kernel
theorem dX6_text_180 : decode cX6_text 180 = .ok (.goto (-21), 3) := by decide +kernel
theorem dX6_text_183 : decode cX6_text 183 = .ok (.aload_n 0, 1) := by decide +kernel
theorem dX6_text_184 : decode cX6_text 184 = .ok (.aload_n 0, 1) := by decide +kernel
theorem dX6_text_185 : decode cX6_text 185 = .ok (.getfield 101, 3) := by decide +kernel
theorem dX6_text_188 : decode cX6_text 188 = .ok (.putfield 144, 3) := by decide +kernel
theorem dX6_text_191 : decode cX6_text 191 = .ok (.aload_n 0, 1) := by decide +kernel
theorem dX6_text_192 : decode cX6_text 192 = .ok (.iconst 0, 1) := by decide +kernel
theorem dX6_text_193 : decode cX6_text 193 = .ok (.putfield 147, 3) := by decide +kernel
theorem dX6_text_196 : decode cX6_text 196 = .ok (.aload_n 0, 1) := by decide +kernel
theorem dX6_text_197 : decode cX6_text 197 = .ok (.getfield 34, 3) := by decide +kernel
theorem dX6_text_200 : decode cX6_text 200 = .ok (.iconst 0, 1) := by decide +kernel
theorem dX6_text_201 : decode cX6_text 201 = .ok (.iconst 0, 1) := by decide +kernel
theorem dX6_text_202 : decode cX6_text 202 = .ok (.bastore, 1) := by decide +kernel
theorem dX6_text_203 : decode cX6_text 203 = .ok (.aload_n 0, 1) := by decide +kernel
theorem dX6_text_204 : decode cX6_text 204 = .ok (.getfield 34, 3) := by decide +kernel
theorem dX6_text_207 : decode cX6_text 207 = .ok (.iconst 1, 1) := by decide +kernel
theorem dX6_text_208 : decode cX6_text 208 = .ok (.iconst 0, 1) := by decide +kernel
theorem dX6_text_209 : decode cX6_text 209 = .ok (.bastore, 1) := by decide +kernel
theorem dX6_text_210 : decode cX6_text 210 = .ok (.iload_n 1, 1) := by decide +kernel
theorem dX6_text_211 : decode cX6_text 211 = .ok (.ireturn, 1) := by decide +kernel
theorem dX6_fault_0 : decode cX6_fault 0 = .ok (.aload_n 0, 1) := by decide +kernel
theorem dX6_fault_1 : decode cX6_fault 1 = .ok (.getfield 141, 3) := by decide +kernel
theorem dX6_fault_4 : decode cX6_fault 4 = .ok (.ireturn, 1) := by decide +kernel
theorem dX6_isOne_0 : decode cX6_isOne 0 = .ok (.iload_n 1, 1) := by decide +kernel
theorem dX6_isOne_1 : decode cX6_isOne 1 = .ok (.i2l, 1) := by decide +kernel
theorem dX6_isOne_2 : decode cX6_isOne 2 = .ok (.lconst 0, 1) := by decide +kernel
theorem dX6_isOne_3 : decode cX6_isOne 3 = .ok (.aload_n 0, 1) := by decide +kernel
theorem dX6_isOne_4 : decode cX6_isOne 4 = .ok (.getfield 144, 3) := by decide +kernel
theorem dX6_isOne_7 : decode cX6_isOne 7 = .ok (.iconst 1, 1) := by decide +kernel
theorem dX6_isOne_8 : decode cX6_isOne 8 = .ok (.isub, 1) := by decide +kernel
theorem dX6_isOne_9 : decode cX6_isOne 9 = .ok (.i2l, 1) := by decide +kernel
theorem dX6_isOne_10 : decode cX6_isOne 10 = .ok (.invokestatic 49, 3) := by decide +kernel
theorem dX6_isOne_13 : decode cX6_isOne 13 = .ok (.ireturn, 1) := by decide +kernel
theorem dX6_isWall_0 : decode cX6_isWall 0 = .ok (.iload_n 1, 1) := by decide +kernel
theorem dX6_isWall_1 : decode cX6_isWall 1 = .ok (.i2l, 1) := by decide +kernel
theorem dX6_isWall_2 : decode cX6_isWall 2 = .ok (.lconst 0, 1) := by decide +kernel
theorem dX6_isWall_3 : decode cX6_isWall 3 = .ok (.aload_n 0, 1) := by decide +kernel
theorem dX6_isWall_4 : decode cX6_isWall 4 = .ok (.getfield 7, 3) := by decide +kernel
theorem dX6_isWall_7 : decode cX6_isWall 7 = .ok (.bipush 25, 2) := by decide +kernel
theorem dX6_isWall_9 : decode cX6_isWall 9 = .ok (.iaload, 1) := by decide +kernel
theorem dX6_isWall_10 : decode cX6_isWall 10 = .ok (.iconst 1, 1) := by decide +kernel
theorem dX6_isWall_11 : decode cX6_isWall 11 = .ok (.isub, 1) := by decide +kernel
theorem dX6_isWall_12 : decode cX6_isWall 12 = .ok (.i2l, 1) := by decide +kernel
theorem dX6_isWall_13 : decode cX6_isWall 13 = .ok (.invokestatic 49, 3) := by decide +kernel
theorem dX6_isWall_16 : decode cX6_isWall 16 = .ok (.ireturn, 1) := by decide +kernel
theorem dX6_isRoom_0 : decode cX6_isRoom 0 = .ok (.iload_n 0, 1) := by decide +kernel
theorem dX6_isRoom_1 : decode cX6_isRoom 1 = .ok (.i2l, 1) := by decide +kernel
theorem dX6_isRoom_2 : decode cX6_isRoom 2 = .ok (.lconst 0, 1) := by decide +kernel
theorem dX6_isRoom_3 : decode cX6_isRoom 3 = .ok (.ldc2_w 150, 3) := by decide +kernel
theorem dX6_isRoom_6 : decode cX6_isRoom 6 = .ok (.invokestatic 49, 3) := by decide +kernel
theorem dX6_isRoom_9 : decode cX6_isRoom 9 = .ok (.ireturn, 1) := by decide +kernel
theorem dX6_doorOn_0 : decode cX6_doorOn 0 = .ok (.iconst 0, 1) := by decide +kernel
theorem dX6_doorOn_1 : decode cX6_doorOn 1 = .ok (.istore_n 3, 1) := by decide +kernel
theorem dX6_doorOn_2 : decode cX6_doorOn 2 = .ok (.iload_n 3, 1) := by decide +kernel
theorem dX6_doorOn_3 : decode cX6_doorOn 3 = .ok (.aload_n 0, 1) := by decide +kernel
theorem dX6_doorOn_4 : decode cX6_doorOn 4 = .ok (.getfield 144, 3) := by decide +kernel
theorem dX6_doorOn_7 : decode cX6_doorOn 7 = .ok (.if_icmp .ge 28, 3) := by decide +kernel
theorem dX6_doorOn_10 : decode cX6_doorOn 10 = .ok (.aload_n 0, 1) := by decide +kernel
theorem dX6_doorOn_11 : decode cX6_doorOn 11 = .ok (.getfield 7, 3) := by decide +kernel
theorem dX6_doorOn_14 : decode cX6_doorOn 14 = .ok (.iload_n 1, 1) := by decide +kernel
theorem dX6_doorOn_15 : decode cX6_doorOn 15 = .ok (.bipush 15, 2) := by decide +kernel
theorem dX6_doorOn_17 : decode cX6_doorOn 17 = .ok (.iadd, 1) := by decide +kernel
theorem dX6_doorOn_18 : decode cX6_doorOn 18 = .ok (.iload_n 3, 1) := by decide +kernel
theorem dX6_doorOn_19 : decode cX6_doorOn 19 = .ok (.iadd, 1) := by decide +kernel
theorem dX6_doorOn_20 : decode cX6_doorOn 20 = .ok (.iaload, 1) := by decide +kernel
theorem dX6_doorOn_21 : decode cX6_doorOn 21 = .ok (.iload_n 2, 1) := by decide +kernel
theorem dX6_doorOn_22 : decode cX6_doorOn 22 = .ok (.iconst 1, 1) := by decide +kernel
theorem dX6_doorOn_23 : decode cX6_doorOn 23 = .ok (.iadd, 1) := by decide +kernel
theorem dX6_doorOn_24 : decode cX6_doorOn 24 = .ok (.if_icmp .ne 5, 3) := by decide +kernel
theorem dX6_doorOn_27 : decode cX6_doorOn 27 = .ok (.iload_n 3, 1) := by decide +kernel
theorem dX6_doorOn_28 : decode cX6_doorOn 28 = .ok (.ireturn, 1) := by decide +kernel
theorem dX6_doorOn_29 : decode cX6_doorOn 29 = .ok (.iinc 3 1, 3) := by decide +kernel
theorem dX6_doorOn_32 : decode cX6_doorOn 32 = .ok (.goto (-30), 3) := by decide +kernel
theorem dX6_doorOn_35 : decode cX6_doorOn 35 = .ok (.bipush (-4), 2) := by decide +kernel
theorem dX6_doorOn_37 : decode cX6_doorOn 37 = .ok (.ireturn, 1) := by decide +kernel
theorem dX6_letsOn_0 : decode cX6_letsOn 0 = .ok (.iload_n 2, 1) := by decide +kernel
theorem dX6_letsOn_1 : decode cX6_letsOn 1 = .ok (.iload_n 3, 1) := by decide +kernel
theorem dX6_letsOn_2 : decode cX6_letsOn 2 = .ok (.if_icmp .eq 26, 3) := by decide +kernel
theorem dX6_letsOn_5 : decode cX6_letsOn 5 = .ok (.aload_n 0, 1) := by decide +kernel
theorem dX6_letsOn_6 : decode cX6_letsOn 6 = .ok (.getfield 7, 3) := by decide +kernel
theorem dX6_letsOn_9 : decode cX6_letsOn 9 = .ok (.iload_n 1, 1) := by decide +kernel
theorem dX6_letsOn_10 : decode cX6_letsOn 10 = .ok (.iconst 5, 1) := by decide +kernel
theorem dX6_letsOn_11 : decode cX6_letsOn 11 = .ok (.iadd, 1) := by decide +kernel
theorem dX6_letsOn_12 : decode cX6_letsOn 12 = .ok (.iload_n 2, 1) := by decide +kernel
theorem dX6_letsOn_13 : decode cX6_letsOn 13 = .ok (.iadd, 1) := by decide +kernel
theorem dX6_letsOn_14 : decode cX6_letsOn 14 = .ok (.iaload, 1) := by decide +kernel
theorem dX6_letsOn_15 : decode cX6_letsOn 15 = .ok (.aload_n 0, 1) := by decide +kernel
theorem dX6_letsOn_16 : decode cX6_letsOn 16 = .ok (.getfield 7, 3) := by decide +kernel
theorem dX6_letsOn_19 : decode cX6_letsOn 19 = .ok (.iload_n 1, 1) := by decide +kernel
theorem dX6_letsOn_20 : decode cX6_letsOn 20 = .ok (.iconst 5, 1) := by decide +kernel
theorem dX6_letsOn_21 : decode cX6_letsOn 21 = .ok (.iadd, 1) := by decide +kernel
theorem dX6_letsOn_22 : decode cX6_letsOn 22 = .ok (.iload_n 3, 1) := by decide +kernel
theorem dX6_letsOn_23 : decode cX6_letsOn 23 = .ok (.iadd, 1) := by decide +kernel
theorem dX6_letsOn_24 : decode cX6_letsOn 24 = .ok (.iaload, 1) := by decide +kernel
theorem dX6_letsOn_25 : decode cX6_letsOn 25 = .ok (.if_icmp .ne 7, 3) := by decide +kernel
theorem dX6_letsOn_28 : decode cX6_letsOn 28 = .ok (.iconst 1, 1) := by decide +kernel
theorem dX6_letsOn_29 : decode cX6_letsOn 29 = .ok (.goto 4, 3) := by decide +kernel
theorem dX6_letsOn_32 : decode cX6_letsOn 32 = .ok (.iconst 0, 1) := by decide +kernel
theorem dX6_letsOn_33 : decode cX6_letsOn 33 = .ok (.istore 4, 2) := by decide +kernel
theorem dX6_letsOn_35 : decode cX6_letsOn 35 = .ok (.aload_n 0, 1) := by decide +kernel
theorem dX6_letsOn_36 : decode cX6_letsOn 36 = .ok (.getfield 7, 3) := by decide +kernel
theorem dX6_letsOn_39 : decode cX6_letsOn 39 = .ok (.iload_n 1, 1) := by decide +kernel
theorem dX6_letsOn_40 : decode cX6_letsOn 40 = .ok (.iload_n 2, 1) := by decide +kernel
theorem dX6_letsOn_41 : decode cX6_letsOn 41 = .ok (.iadd, 1) := by decide +kernel
theorem dX6_letsOn_42 : decode cX6_letsOn 42 = .ok (.iaload, 1) := by decide +kernel
theorem dX6_letsOn_43 : decode cX6_letsOn 43 = .ok (.tableswitch 50 0 2 #[25, 36, 39], 25) := by decide +kernel
theorem dX6_letsOn_68 : decode cX6_letsOn 68 = .ok (.iload_n 2, 1) := by decide +kernel
theorem dX6_letsOn_69 : decode cX6_letsOn 69 = .ok (.iload_n 3, 1) := by decide +kernel
theorem dX6_letsOn_70 : decode cX6_letsOn 70 = .ok (.if_icmp .ne 7, 3) := by decide +kernel
theorem dX6_letsOn_73 : decode cX6_letsOn 73 = .ok (.iconst 1, 1) := by decide +kernel
theorem dX6_letsOn_74 : decode cX6_letsOn 74 = .ok (.goto 4, 3) := by decide +kernel
theorem dX6_letsOn_77 : decode cX6_letsOn 77 = .ok (.iconst 0, 1) := by decide +kernel
theorem dX6_letsOn_78 : decode cX6_letsOn 78 = .ok (.ireturn, 1) := by decide +kernel
theorem dX6_letsOn_79 : decode cX6_letsOn 79 = .ok (.iload 4, 2) := by decide +kernel
theorem dX6_letsOn_81 : decode cX6_letsOn 81 = .ok (.ireturn, 1) := by decide +kernel
theorem dX6_letsOn_82 : decode cX6_letsOn 82 = .ok (.iload 4, 2) := by decide +kernel
theorem dX6_letsOn_84 : decode cX6_letsOn 84 = .ok (.ifCond .ne 7, 3) := by decide +kernel
theorem dX6_letsOn_87 : decode cX6_letsOn 87 = .ok (.iconst 1, 1) := by decide +kernel
theorem dX6_letsOn_88 : decode cX6_letsOn 88 = .ok (.goto 4, 3) := by decide +kernel
theorem dX6_letsOn_91 : decode cX6_letsOn 91 = .ok (.iconst 0, 1) := by decide +kernel
theorem dX6_letsOn_92 : decode cX6_letsOn 92 = .ok (.ireturn, 1) := by decide +kernel
theorem dX6_letsOn_93 : decode cX6_letsOn 93 = .ok (.iload_n 2, 1) := by decide +kernel
theorem dX6_letsOn_94 : decode cX6_letsOn 94 = .ok (.iload_n 3, 1) := by decide +kernel
theorem dX6_letsOn_95 : decode cX6_letsOn 95 = .ok (.if_icmp .eq 7, 3) := by decide +kernel
theorem dX6_letsOn_98 : decode cX6_letsOn 98 = .ok (.iconst 1, 1) := by decide +kernel
theorem dX6_letsOn_99 : decode cX6_letsOn 99 = .ok (.goto 4, 3) := by decide +kernel
theorem dX6_letsOn_102 : decode cX6_letsOn 102 = .ok (.iconst 0, 1) := by decide +kernel
theorem dX6_letsOn_103 : decode cX6_letsOn 103 = .ok (.ireturn, 1) := by decide +kernel
theorem dX6_passesOn_0 : decode cX6_passesOn 0 = .ok (.aload_n 0, 1) := by decide +kernel
theorem dX6_passesOn_1 : decode cX6_passesOn 1 = .ok (.iload_n 1, 1) := by decide +kernel
theorem dX6_passesOn_2 : decode cX6_passesOn 2 = .ok (.iload_n 2, 1) := by decide +kernel
theorem dX6_passesOn_3 : decode cX6_passesOn 3 = .ok (.invokevirtual 152, 3) := by decide +kernel
theorem dX6_passesOn_6 : decode cX6_passesOn 6 = .ok (.istore 4, 2) := by decide +kernel
theorem dX6_passesOn_8 : decode cX6_passesOn 8 = .ok (.iload 4, 2) := by decide +kernel
theorem dX6_passesOn_10 : decode cX6_passesOn 10 = .ok (.bipush (-4), 2) := by decide +kernel
theorem dX6_passesOn_12 : decode cX6_passesOn 12 = .ok (.if_icmp .eq 30, 3) := by decide +kernel
theorem dX6_passesOn_15 : decode cX6_passesOn 15 = .ok (.aload_n 0, 1) := by decide +kernel
theorem dX6_passesOn_16 : decode cX6_passesOn 16 = .ok (.getfield 156, 3) := by decide +kernel
theorem dX6_passesOn_19 : decode cX6_passesOn 19 = .ok (.iload 4, 2) := by decide +kernel
theorem dX6_passesOn_21 : decode cX6_passesOn 21 = .ok (.ishr, 1) := by decide +kernel
theorem dX6_passesOn_22 : decode cX6_passesOn 22 = .ok (.iconst 1, 1) := by decide +kernel
theorem dX6_passesOn_23 : decode cX6_passesOn 23 = .ok (.iand, 1) := by decide +kernel
theorem dX6_passesOn_24 : decode cX6_passesOn 24 = .ok (.ifCond .ne 18, 3) := by decide +kernel
theorem dX6_passesOn_27 : decode cX6_passesOn 27 = .ok (.aload_n 0, 1) := by decide +kernel
theorem dX6_passesOn_28 : decode cX6_passesOn 28 = .ok (.iload_n 1, 1) := by decide +kernel
theorem dX6_passesOn_29 : decode cX6_passesOn 29 = .ok (.iload 4, 2) := by decide +kernel
theorem dX6_passesOn_31 : decode cX6_passesOn 31 = .ok (.iload_n 3, 1) := by decide +kernel
theorem dX6_passesOn_32 : decode cX6_passesOn 32 = .ok (.invokevirtual 159, 3) := by decide +kernel
theorem dX6_passesOn_35 : decode cX6_passesOn 35 = .ok (.ifCond .eq 7, 3) := by decide +kernel
theorem dX6_passesOn_38 : decode cX6_passesOn 38 = .ok (.iconst 1, 1) := by decide +kernel
theorem dX6_passesOn_39 : decode cX6_passesOn 39 = .ok (.goto 4, 3) := by decide +kernel
theorem dX6_passesOn_42 : decode cX6_passesOn 42 = .ok (.iconst 0, 1) := by decide +kernel
theorem dX6_passesOn_43 : decode cX6_passesOn 43 = .ok (.ireturn, 1) := by decide +kernel
theorem dX6_goesFrom_0 : decode cX6_goesFrom 0 = .ok (.iconst 0, 1) := by decide +kernel
theorem dX6_goesFrom_1 : decode cX6_goesFrom 1 = .ok (.istore 4, 2) := by decide +kernel
theorem dX6_goesFrom_3 : decode cX6_goesFrom 3 = .ok (.iload 4, 2) := by decide +kernel
theorem dX6_goesFrom_5 : decode cX6_goesFrom 5 = .ok (.bipush 8, 2) := by decide +kernel
theorem dX6_goesFrom_7 : decode cX6_goesFrom 7 = .ok (.if_icmp .ge 28, 3) := by decide +kernel
theorem dX6_goesFrom_10 : decode cX6_goesFrom 10 = .ok (.aload_n 0, 1) := by decide +kernel
theorem dX6_goesFrom_11 : decode cX6_goesFrom 11 = .ok (.getfield 25, 3) := by decide +kernel
theorem dX6_goesFrom_14 : decode cX6_goesFrom 14 = .ok (.iload 4, 2) := by decide +kernel
theorem dX6_goesFrom_16 : decode cX6_goesFrom 16 = .ok (.iload 4, 2) := by decide +kernel
theorem dX6_goesFrom_18 : decode cX6_goesFrom 18 = .ok (.iload_n 3, 1) := by decide +kernel
theorem dX6_goesFrom_19 : decode cX6_goesFrom 19 = .ok (.if_icmp .ne 7, 3) := by decide +kernel
theorem dX6_goesFrom_22 : decode cX6_goesFrom 22 = .ok (.iconst 0, 1) := by decide +kernel
theorem dX6_goesFrom_23 : decode cX6_goesFrom 23 = .ok (.goto 5, 3) := by decide +kernel
theorem dX6_goesFrom_26 : decode cX6_goesFrom 26 = .ok (.bipush (-4), 2) := by decide +kernel
theorem dX6_goesFrom_28 : decode cX6_goesFrom 28 = .ok (.iastore, 1) := by decide +kernel
theorem dX6_goesFrom_29 : decode cX6_goesFrom 29 = .ok (.iinc 4 1, 3) := by decide +kernel
theorem dX6_goesFrom_32 : decode cX6_goesFrom 32 = .ok (.goto (-29), 3) := by decide +kernel
theorem dX6_goesFrom_35 : decode cX6_goesFrom 35 = .ok (.iconst 1, 1) := by decide +kernel
theorem dX6_goesFrom_36 : decode cX6_goesFrom 36 = .ok (.iload_n 3, 1) := by decide +kernel
theorem dX6_goesFrom_37 : decode cX6_goesFrom 37 = .ok (.ishl, 1) := by decide +kernel
theorem dX6_goesFrom_38 : decode cX6_goesFrom 38 = .ok (.istore 4, 2) := by decide +kernel
theorem dX6_goesFrom_40 : decode cX6_goesFrom 40 = .ok (.iconst 0, 1) := by decide +kernel
theorem dX6_goesFrom_41 : decode cX6_goesFrom 41 = .ok (.istore 5, 2) := by decide +kernel
theorem dX6_goesFrom_43 : decode cX6_goesFrom 43 = .ok (.iload 5, 2) := by decide +kernel
theorem dX6_goesFrom_45 : decode cX6_goesFrom 45 = .ok (.bipush 7, 2) := by decide +kernel
theorem dX6_goesFrom_47 : decode cX6_goesFrom 47 = .ok (.if_icmp .ge 194, 3) := by decide +kernel
theorem dX6_goesFrom_50 : decode cX6_goesFrom 50 = .ok (.iconst 0, 1) := by decide +kernel
theorem dX6_goesFrom_51 : decode cX6_goesFrom 51 = .ok (.istore 6, 2) := by decide +kernel
theorem dX6_goesFrom_53 : decode cX6_goesFrom 53 = .ok (.iload 6, 2) := by decide +kernel
theorem dX6_goesFrom_55 : decode cX6_goesFrom 55 = .ok (.aload_n 0, 1) := by decide +kernel
theorem dX6_goesFrom_56 : decode cX6_goesFrom 56 = .ok (.getfield 7, 3) := by decide +kernel
theorem dX6_goesFrom_59 : decode cX6_goesFrom 59 = .ok (.iload_n 1, 1) := by decide +kernel
theorem dX6_goesFrom_60 : decode cX6_goesFrom 60 = .ok (.bipush 25, 2) := by decide +kernel
theorem dX6_goesFrom_62 : decode cX6_goesFrom 62 = .ok (.iadd, 1) := by decide +kernel
theorem dX6_goesFrom_63 : decode cX6_goesFrom 63 = .ok (.iaload, 1) := by decide +kernel
theorem dX6_goesFrom_64 : decode cX6_goesFrom 64 = .ok (.if_icmp .ge 171, 3) := by decide +kernel
theorem dX6_goesFrom_67 : decode cX6_goesFrom 67 = .ok (.aload_n 0, 1) := by decide +kernel
theorem dX6_goesFrom_68 : decode cX6_goesFrom 68 = .ok (.iload_n 1, 1) := by decide +kernel
theorem dX6_goesFrom_69 : decode cX6_goesFrom 69 = .ok (.iload 6, 2) := by decide +kernel
theorem dX6_goesFrom_71 : decode cX6_goesFrom 71 = .ok (.iload_n 2, 1) := by decide +kernel
theorem dX6_goesFrom_72 : decode cX6_goesFrom 72 = .ok (.invokevirtual 163, 3) := by decide +kernel
theorem dX6_goesFrom_75 : decode cX6_goesFrom 75 = .ok (.ifCond .eq 154, 3) := by decide +kernel
theorem dX6_goesFrom_78 : decode cX6_goesFrom 78 = .ok (.aload_n 0, 1) := by decide +kernel
theorem dX6_goesFrom_79 : decode cX6_goesFrom 79 = .ok (.getfield 7, 3) := by decide +kernel
theorem dX6_goesFrom_82 : decode cX6_goesFrom 82 = .ok (.iload_n 1, 1) := by decide +kernel
theorem dX6_goesFrom_83 : decode cX6_goesFrom 83 = .ok (.bipush 26, 2) := by decide +kernel
theorem dX6_goesFrom_85 : decode cX6_goesFrom 85 = .ok (.iadd, 1) := by decide +kernel
theorem dX6_goesFrom_86 : decode cX6_goesFrom 86 = .ok (.iload 6, 2) := by decide +kernel
theorem dX6_goesFrom_88 : decode cX6_goesFrom 88 = .ok (.iadd, 1) := by decide +kernel
theorem dX6_goesFrom_89 : decode cX6_goesFrom 89 = .ok (.iaload, 1) := by decide +kernel
theorem dX6_goesFrom_90 : decode cX6_goesFrom 90 = .ok (.istore 7, 2) := by decide +kernel
theorem dX6_goesFrom_92 : decode cX6_goesFrom 92 = .ok (.aload_n 0, 1) := by decide +kernel
theorem dX6_goesFrom_93 : decode cX6_goesFrom 93 = .ok (.getfield 7, 3) := by decide +kernel
theorem dX6_goesFrom_96 : decode cX6_goesFrom 96 = .ok (.iload_n 1, 1) := by decide +kernel
theorem dX6_goesFrom_97 : decode cX6_goesFrom 97 = .ok (.bipush 35, 2) := by decide +kernel
theorem dX6_goesFrom_99 : decode cX6_goesFrom 99 = .ok (.iadd, 1) := by decide +kernel
theorem dX6_goesFrom_100 : decode cX6_goesFrom 100 = .ok (.iload 6, 2) := by decide +kernel
theorem dX6_goesFrom_102 : decode cX6_goesFrom 102 = .ok (.iadd, 1) := by decide +kernel
theorem dX6_goesFrom_103 : decode cX6_goesFrom 103 = .ok (.iaload, 1) := by decide +kernel
theorem dX6_goesFrom_104 : decode cX6_goesFrom 104 = .ok (.istore 8, 2) := by decide +kernel
theorem dX6_goesFrom_106 : decode cX6_goesFrom 106 = .ok (.aload_n 0, 1) := by decide +kernel
theorem dX6_goesFrom_107 : decode cX6_goesFrom 107 = .ok (.getfield 25, 3) := by decide +kernel
theorem dX6_goesFrom_110 : decode cX6_goesFrom 110 = .ok (.iload 7, 2) := by decide +kernel
theorem dX6_goesFrom_112 : decode cX6_goesFrom 112 = .ok (.iaload, 1) := by decide +kernel
theorem dX6_goesFrom_113 : decode cX6_goesFrom 113 = .ok (.iload 5, 2) := by decide +kernel
theorem dX6_goesFrom_115 : decode cX6_goesFrom 115 = .ok (.if_icmp .ne 29, 3) := by decide +kernel
theorem dX6_goesFrom_118 : decode cX6_goesFrom 118 = .ok (.aload_n 0, 1) := by decide +kernel
theorem dX6_goesFrom_119 : decode cX6_goesFrom 119 = .ok (.getfield 25, 3) := by decide +kernel
theorem dX6_goesFrom_122 : decode cX6_goesFrom 122 = .ok (.iload 8, 2) := by decide +kernel
theorem dX6_goesFrom_124 : decode cX6_goesFrom 124 = .ok (.iaload, 1) := by decide +kernel
theorem dX6_goesFrom_125 : decode cX6_goesFrom 125 = .ok (.bipush (-4), 2) := by decide +kernel
theorem dX6_goesFrom_127 : decode cX6_goesFrom 127 = .ok (.if_icmp .ne 17, 3) := by decide +kernel
theorem dX6_goesFrom_130 : decode cX6_goesFrom 130 = .ok (.aload_n 0, 1) := by decide +kernel
theorem dX6_goesFrom_131 : decode cX6_goesFrom 131 = .ok (.getfield 25, 3) := by decide +kernel
theorem dX6_goesFrom_134 : decode cX6_goesFrom 134 = .ok (.iload 8, 2) := by decide +kernel
theorem dX6_goesFrom_136 : decode cX6_goesFrom 136 = .ok (.iload 5, 2) := by decide +kernel
theorem dX6_goesFrom_138 : decode cX6_goesFrom 138 = .ok (.iconst 1, 1) := by decide +kernel
theorem dX6_goesFrom_139 : decode cX6_goesFrom 139 = .ok (.iadd, 1) := by decide +kernel
theorem dX6_goesFrom_140 : decode cX6_goesFrom 140 = .ok (.iastore, 1) := by decide +kernel
theorem dX6_goesFrom_141 : decode cX6_goesFrom 141 = .ok (.goto 38, 3) := by decide +kernel
theorem dX6_goesFrom_144 : decode cX6_goesFrom 144 = .ok (.aload_n 0, 1) := by decide +kernel
theorem dX6_goesFrom_145 : decode cX6_goesFrom 145 = .ok (.getfield 25, 3) := by decide +kernel
theorem dX6_goesFrom_148 : decode cX6_goesFrom 148 = .ok (.iload 8, 2) := by decide +kernel
theorem dX6_goesFrom_150 : decode cX6_goesFrom 150 = .ok (.iaload, 1) := by decide +kernel
theorem dX6_goesFrom_151 : decode cX6_goesFrom 151 = .ok (.iload 5, 2) := by decide +kernel
theorem dX6_goesFrom_153 : decode cX6_goesFrom 153 = .ok (.if_icmp .ne 26, 3) := by decide +kernel
theorem dX6_goesFrom_156 : decode cX6_goesFrom 156 = .ok (.aload_n 0, 1) := by decide +kernel
theorem dX6_goesFrom_157 : decode cX6_goesFrom 157 = .ok (.getfield 25, 3) := by decide +kernel
theorem dX6_goesFrom_160 : decode cX6_goesFrom 160 = .ok (.iload 7, 2) := by decide +kernel
theorem dX6_goesFrom_162 : decode cX6_goesFrom 162 = .ok (.iaload, 1) := by decide +kernel
theorem dX6_goesFrom_163 : decode cX6_goesFrom 163 = .ok (.bipush (-4), 2) := by decide +kernel
theorem dX6_goesFrom_165 : decode cX6_goesFrom 165 = .ok (.if_icmp .ne 14, 3) := by decide +kernel
theorem dX6_goesFrom_168 : decode cX6_goesFrom 168 = .ok (.aload_n 0, 1) := by decide +kernel
theorem dX6_goesFrom_169 : decode cX6_goesFrom 169 = .ok (.getfield 25, 3) := by decide +kernel
theorem dX6_goesFrom_172 : decode cX6_goesFrom 172 = .ok (.iload 7, 2) := by decide +kernel
theorem dX6_goesFrom_174 : decode cX6_goesFrom 174 = .ok (.iload 5, 2) := by decide +kernel
theorem dX6_goesFrom_176 : decode cX6_goesFrom 176 = .ok (.iconst 1, 1) := by decide +kernel
theorem dX6_goesFrom_177 : decode cX6_goesFrom 177 = .ok (.iadd, 1) := by decide +kernel
theorem dX6_goesFrom_178 : decode cX6_goesFrom 178 = .ok (.iastore, 1) := by decide +kernel
theorem dX6_goesFrom_179 : decode cX6_goesFrom 179 = .ok (.iload 4, 2) := by decide +kernel
theorem dX6_goesFrom_181 : decode cX6_goesFrom 181 = .ok (.aload_n 0, 1) := by decide +kernel
theorem dX6_goesFrom_182 : decode cX6_goesFrom 182 = .ok (.getfield 25, 3) := by decide +kernel
theorem dX6_goesFrom_185 : decode cX6_goesFrom 185 = .ok (.iload 7, 2) := by decide +kernel
theorem dX6_goesFrom_187 : decode cX6_goesFrom 187 = .ok (.iaload, 1) := by decide +kernel
theorem dX6_goesFrom_188 : decode cX6_goesFrom 188 = .ok (.bipush (-4), 2) := by decide +kernel
theorem dX6_goesFrom_190 : decode cX6_goesFrom 190 = .ok (.if_icmp .eq 10, 3) := by decide +kernel
theorem dX6_goesFrom_193 : decode cX6_goesFrom 193 = .ok (.iconst 1, 1) := by decide +kernel
theorem dX6_goesFrom_194 : decode cX6_goesFrom 194 = .ok (.iload 7, 2) := by decide +kernel
theorem dX6_goesFrom_196 : decode cX6_goesFrom 196 = .ok (.ishl, 1) := by decide +kernel
theorem dX6_goesFrom_197 : decode cX6_goesFrom 197 = .ok (.goto 4, 3) := by decide +kernel
theorem dX6_goesFrom_200 : decode cX6_goesFrom 200 = .ok (.iconst 0, 1) := by decide +kernel
theorem dX6_goesFrom_201 : decode cX6_goesFrom 201 = .ok (.ior, 1) := by decide +kernel
theorem dX6_goesFrom_202 : decode cX6_goesFrom 202 = .ok (.istore 4, 2) := by decide +kernel
theorem dX6_goesFrom_204 : decode cX6_goesFrom 204 = .ok (.iload 4, 2) := by decide +kernel
theorem dX6_goesFrom_206 : decode cX6_goesFrom 206 = .ok (.aload_n 0, 1) := by decide +kernel
theorem dX6_goesFrom_207 : decode cX6_goesFrom 207 = .ok (.getfield 25, 3) := by decide +kernel
theorem dX6_goesFrom_210 : decode cX6_goesFrom 210 = .ok (.iload 8, 2) := by decide +kernel
theorem dX6_goesFrom_212 : decode cX6_goesFrom 212 = .ok (.iaload, 1) := by decide +kernel
theorem dX6_goesFrom_213 : decode cX6_goesFrom 213 = .ok (.bipush (-4), 2) := by decide +kernel
theorem dX6_goesFrom_215 : decode cX6_goesFrom 215 = .ok (.if_icmp .eq 10, 3) := by decide +kernel
theorem dX6_goesFrom_218 : decode cX6_goesFrom 218 = .ok (.iconst 1, 1) := by decide +kernel
theorem dX6_goesFrom_219 : decode cX6_goesFrom 219 = .ok (.iload 8, 2) := by decide +kernel
theorem dX6_goesFrom_221 : decode cX6_goesFrom 221 = .ok (.ishl, 1) := by decide +kernel
theorem dX6_goesFrom_222 : decode cX6_goesFrom 222 = .ok (.goto 4, 3) := by decide +kernel
theorem dX6_goesFrom_225 : decode cX6_goesFrom 225 = .ok (.iconst 0, 1) := by decide +kernel
theorem dX6_goesFrom_226 : decode cX6_goesFrom 226 = .ok (.ior, 1) := by decide +kernel
theorem dX6_goesFrom_227 : decode cX6_goesFrom 227 = .ok (.istore 4, 2) := by decide +kernel
theorem dX6_goesFrom_229 : decode cX6_goesFrom 229 = .ok (.iinc 6 1, 3) := by decide +kernel
theorem dX6_goesFrom_232 : decode cX6_goesFrom 232 = .ok (.goto (-179), 3) := by decide +kernel
theorem dX6_goesFrom_235 : decode cX6_goesFrom 235 = .ok (.iinc 5 1, 3) := by decide +kernel
theorem dX6_goesFrom_238 : decode cX6_goesFrom 238 = .ok (.goto (-195), 3) := by decide +kernel
theorem dX6_goesFrom_241 : decode cX6_goesFrom 241 = .ok (.iload 4, 2) := by decide +kernel
theorem dX6_goesFrom_243 : decode cX6_goesFrom 243 = .ok (.ireturn, 1) := by decide +kernel
theorem dX6_reachesOn_0 : decode cX6_reachesOn 0 = .ok (.aload_n 0, 1) := by decide +kernel
theorem dX6_reachesOn_1 : decode cX6_reachesOn 1 = .ok (.iload_n 1, 1) := by decide +kernel
theorem dX6_reachesOn_2 : decode cX6_reachesOn 2 = .ok (.iload_n 2, 1) := by decide +kernel
theorem dX6_reachesOn_3 : decode cX6_reachesOn 3 = .ok (.aload_n 0, 1) := by decide +kernel
theorem dX6_reachesOn_4 : decode cX6_reachesOn 4 = .ok (.getfield 7, 3) := by decide +kernel
theorem dX6_reachesOn_7 : decode cX6_reachesOn 7 = .ok (.iload_n 1, 1) := by decide +kernel
theorem dX6_reachesOn_8 : decode cX6_reachesOn 8 = .ok (.bipush 10, 2) := by decide +kernel
theorem dX6_reachesOn_10 : decode cX6_reachesOn 10 = .ok (.iadd, 1) := by decide +kernel
theorem dX6_reachesOn_11 : decode cX6_reachesOn 11 = .ok (.iload_n 2, 1) := by decide +kernel
theorem dX6_reachesOn_12 : decode cX6_reachesOn 12 = .ok (.iadd, 1) := by decide +kernel
theorem dX6_reachesOn_13 : decode cX6_reachesOn 13 = .ok (.iaload, 1) := by decide +kernel
theorem dX6_reachesOn_14 : decode cX6_reachesOn 14 = .ok (.invokevirtual 166, 3) := by decide +kernel
theorem dX6_reachesOn_17 : decode cX6_reachesOn 17 = .ok (.ireturn, 1) := by decide +kernel
theorem dX6_gainOn_0 : decode cX6_gainOn 0 = .ok (.aload_n 0, 1) := by decide +kernel
theorem dX6_gainOn_1 : decode cX6_gainOn 1 = .ok (.iload_n 1, 1) := by decide +kernel
theorem dX6_gainOn_2 : decode cX6_gainOn 2 = .ok (.iload_n 2, 1) := by decide +kernel
theorem dX6_gainOn_3 : decode cX6_gainOn 3 = .ok (.invokevirtual 169, 3) := by decide +kernel
theorem dX6_gainOn_6 : decode cX6_gainOn 6 = .ok (.istore_n 3, 1) := by decide +kernel
theorem dX6_gainOn_7 : decode cX6_gainOn 7 = .ok (.iconst 0, 1) := by decide +kernel
theorem dX6_gainOn_8 : decode cX6_gainOn 8 = .ok (.istore 4, 2) := by decide +kernel
theorem dX6_gainOn_10 : decode cX6_gainOn 10 = .ok (.iconst 0, 1) := by decide +kernel
theorem dX6_gainOn_11 : decode cX6_gainOn 11 = .ok (.istore 5, 2) := by decide +kernel
theorem dX6_gainOn_13 : decode cX6_gainOn 13 = .ok (.iload 5, 2) := by decide +kernel
theorem dX6_gainOn_15 : decode cX6_gainOn 15 = .ok (.bipush 8, 2) := by decide +kernel
theorem dX6_gainOn_17 : decode cX6_gainOn 17 = .ok (.if_icmp .ge 56, 3) := by decide +kernel
theorem dX6_gainOn_20 : decode cX6_gainOn 20 = .ok (.iload 4, 2) := by decide +kernel
theorem dX6_gainOn_22 : decode cX6_gainOn 22 = .ok (.iload_n 3, 1) := by decide +kernel
theorem dX6_gainOn_23 : decode cX6_gainOn 23 = .ok (.iload 5, 2) := by decide +kernel
theorem dX6_gainOn_25 : decode cX6_gainOn 25 = .ok (.ishr, 1) := by decide +kernel
theorem dX6_gainOn_26 : decode cX6_gainOn 26 = .ok (.iconst 1, 1) := by decide +kernel
theorem dX6_gainOn_27 : decode cX6_gainOn 27 = .ok (.iand, 1) := by decide +kernel
theorem dX6_gainOn_28 : decode cX6_gainOn 28 = .ok (.iconst 1, 1) := by decide +kernel
theorem dX6_gainOn_29 : decode cX6_gainOn 29 = .ok (.if_icmp .ne 34, 3) := by decide +kernel
theorem dX6_gainOn_32 : decode cX6_gainOn 32 = .ok (.iload 5, 2) := by decide +kernel
theorem dX6_gainOn_34 : decode cX6_gainOn 34 = .ok (.aload_n 0, 1) := by decide +kernel
theorem dX6_gainOn_35 : decode cX6_gainOn 35 = .ok (.getfield 7, 3) := by decide +kernel
theorem dX6_gainOn_38 : decode cX6_gainOn 38 = .ok (.iload_n 1, 1) := by decide +kernel
theorem dX6_gainOn_39 : decode cX6_gainOn 39 = .ok (.bipush 10, 2) := by decide +kernel
theorem dX6_gainOn_41 : decode cX6_gainOn 41 = .ok (.iadd, 1) := by decide +kernel
theorem dX6_gainOn_42 : decode cX6_gainOn 42 = .ok (.iload_n 2, 1) := by decide +kernel
theorem dX6_gainOn_43 : decode cX6_gainOn 43 = .ok (.iadd, 1) := by decide +kernel
theorem dX6_gainOn_44 : decode cX6_gainOn 44 = .ok (.iaload, 1) := by decide +kernel
theorem dX6_gainOn_45 : decode cX6_gainOn 45 = .ok (.if_icmp .eq 18, 3) := by decide +kernel
theorem dX6_gainOn_48 : decode cX6_gainOn 48 = .ok (.aload_n 0, 1) := by decide +kernel
theorem dX6_gainOn_49 : decode cX6_gainOn 49 = .ok (.getfield 7, 3) := by decide +kernel
theorem dX6_gainOn_52 : decode cX6_gainOn 52 = .ok (.iload_n 1, 1) := by decide +kernel
theorem dX6_gainOn_53 : decode cX6_gainOn 53 = .ok (.bipush 44, 2) := by decide +kernel
theorem dX6_gainOn_55 : decode cX6_gainOn 55 = .ok (.iadd, 1) := by decide +kernel
theorem dX6_gainOn_56 : decode cX6_gainOn 56 = .ok (.iload 5, 2) := by decide +kernel
theorem dX6_gainOn_58 : decode cX6_gainOn 58 = .ok (.iadd, 1) := by decide +kernel
theorem dX6_gainOn_59 : decode cX6_gainOn 59 = .ok (.iaload, 1) := by decide +kernel
theorem dX6_gainOn_60 : decode cX6_gainOn 60 = .ok (.goto 4, 3) := by decide +kernel
theorem dX6_gainOn_63 : decode cX6_gainOn 63 = .ok (.iconst 0, 1) := by decide +kernel
theorem dX6_gainOn_64 : decode cX6_gainOn 64 = .ok (.iadd, 1) := by decide +kernel
theorem dX6_gainOn_65 : decode cX6_gainOn 65 = .ok (.istore 4, 2) := by decide +kernel
theorem dX6_gainOn_67 : decode cX6_gainOn 67 = .ok (.iinc 5 1, 3) := by decide +kernel
theorem dX6_gainOn_70 : decode cX6_gainOn 70 = .ok (.goto (-57), 3) := by decide +kernel
theorem dX6_gainOn_73 : decode cX6_gainOn 73 = .ok (.iload 4, 2) := by decide +kernel
theorem dX6_gainOn_75 : decode cX6_gainOn 75 = .ok (.ireturn, 1) := by decide +kernel
theorem dX6_bitsOf_0 : decode cX6_bitsOf 0 = .ok (.iconst 0, 1) := by decide +kernel
theorem dX6_bitsOf_1 : decode cX6_bitsOf 1 = .ok (.istore_n 1, 1) := by decide +kernel
theorem dX6_bitsOf_2 : decode cX6_bitsOf 2 = .ok (.iload_n 0, 1) := by decide +kernel
theorem dX6_bitsOf_3 : decode cX6_bitsOf 3 = .ok (.istore_n 2, 1) := by decide +kernel
theorem dX6_bitsOf_4 : decode cX6_bitsOf 4 = .ok (.iload_n 2, 1) := by decide +kernel
theorem dX6_bitsOf_5 : decode cX6_bitsOf 5 = .ok (.ifCond .le 16, 3) := by decide +kernel
theorem dX6_bitsOf_8 : decode cX6_bitsOf 8 = .ok (.iload_n 1, 1) := by decide +kernel
theorem dX6_bitsOf_9 : decode cX6_bitsOf 9 = .ok (.iload_n 2, 1) := by decide +kernel
theorem dX6_bitsOf_10 : decode cX6_bitsOf 10 = .ok (.iconst 1, 1) := by decide +kernel
theorem dX6_bitsOf_11 : decode cX6_bitsOf 11 = .ok (.iand, 1) := by decide +kernel
theorem dX6_bitsOf_12 : decode cX6_bitsOf 12 = .ok (.iadd, 1) := by decide +kernel
theorem dX6_bitsOf_13 : decode cX6_bitsOf 13 = .ok (.istore_n 1, 1) := by decide +kernel
theorem dX6_bitsOf_14 : decode cX6_bitsOf 14 = .ok (.iload_n 2, 1) := by decide +kernel
theorem dX6_bitsOf_15 : decode cX6_bitsOf 15 = .ok (.iconst 1, 1) := by decide +kernel
theorem dX6_bitsOf_16 : decode cX6_bitsOf 16 = .ok (.ishr, 1) := by decide +kernel
theorem dX6_bitsOf_17 : decode cX6_bitsOf 17 = .ok (.istore_n 2, 1) := by decide +kernel
theorem dX6_bitsOf_18 : decode cX6_bitsOf 18 = .ok (.goto (-14), 3) := by decide +kernel
theorem dX6_bitsOf_21 : decode cX6_bitsOf 21 = .ok (.iload_n 1, 1) := by decide +kernel
theorem dX6_bitsOf_22 : decode cX6_bitsOf 22 = .ok (.ireturn, 1) := by decide +kernel
theorem dX6_allOn_0 : decode cX6_allOn 0 = .ok (.iconst 0, 1) := by decide +kernel
theorem dX6_allOn_1 : decode cX6_allOn 1 = .ok (.istore_n 2, 1) := by decide +kernel
theorem dX6_allOn_2 : decode cX6_allOn 2 = .ok (.iconst 0, 1) := by decide +kernel
theorem dX6_allOn_3 : decode cX6_allOn 3 = .ok (.istore_n 3, 1) := by decide +kernel
theorem dX6_allOn_4 : decode cX6_allOn 4 = .ok (.iload_n 3, 1) := by decide +kernel
theorem dX6_allOn_5 : decode cX6_allOn 5 = .ok (.aload_n 0, 1) := by decide +kernel
theorem dX6_allOn_6 : decode cX6_allOn 6 = .ok (.getfield 144, 3) := by decide +kernel
theorem dX6_allOn_9 : decode cX6_allOn 9 = .ok (.if_icmp .ge 21, 3) := by decide +kernel
theorem dX6_allOn_12 : decode cX6_allOn 12 = .ok (.iload_n 2, 1) := by decide +kernel
theorem dX6_allOn_13 : decode cX6_allOn 13 = .ok (.aload_n 0, 1) := by decide +kernel
theorem dX6_allOn_14 : decode cX6_allOn 14 = .ok (.iload_n 1, 1) := by decide +kernel
theorem dX6_allOn_15 : decode cX6_allOn 15 = .ok (.iload_n 3, 1) := by decide +kernel
theorem dX6_allOn_16 : decode cX6_allOn 16 = .ok (.invokevirtual 169, 3) := by decide +kernel
theorem dX6_allOn_19 : decode cX6_allOn 19 = .ok (.invokestatic 172, 3) := by decide +kernel
theorem dX6_allOn_22 : decode cX6_allOn 22 = .ok (.iadd, 1) := by decide +kernel
theorem dX6_allOn_23 : decode cX6_allOn 23 = .ok (.istore_n 2, 1) := by decide +kernel
theorem dX6_allOn_24 : decode cX6_allOn 24 = .ok (.iinc 3 1, 3) := by decide +kernel
theorem dX6_allOn_27 : decode cX6_allOn 27 = .ok (.goto (-23), 3) := by decide +kernel
theorem dX6_allOn_30 : decode cX6_allOn 30 = .ok (.iload_n 2, 1) := by decide +kernel
theorem dX6_allOn_31 : decode cX6_allOn 31 = .ok (.ireturn, 1) := by decide +kernel
theorem dX6_hungOn_0 : decode cX6_hungOn 0 = .ok (.iconst 0, 1) := by decide +kernel
theorem dX6_hungOn_1 : decode cX6_hungOn 1 = .ok (.istore_n 2, 1) := by decide +kernel
theorem dX6_hungOn_2 : decode cX6_hungOn 2 = .ok (.iconst 0, 1) := by decide +kernel
theorem dX6_hungOn_3 : decode cX6_hungOn 3 = .ok (.istore_n 3, 1) := by decide +kernel
theorem dX6_hungOn_4 : decode cX6_hungOn 4 = .ok (.iload_n 3, 1) := by decide +kernel
theorem dX6_hungOn_5 : decode cX6_hungOn 5 = .ok (.aload_n 0, 1) := by decide +kernel
theorem dX6_hungOn_6 : decode cX6_hungOn 6 = .ok (.getfield 144, 3) := by decide +kernel
theorem dX6_hungOn_9 : decode cX6_hungOn 9 = .ok (.if_icmp .ge 31, 3) := by decide +kernel
theorem dX6_hungOn_12 : decode cX6_hungOn 12 = .ok (.iload_n 2, 1) := by decide +kernel
theorem dX6_hungOn_13 : decode cX6_hungOn 13 = .ok (.aload_n 0, 1) := by decide +kernel
theorem dX6_hungOn_14 : decode cX6_hungOn 14 = .ok (.getfield 7, 3) := by decide +kernel
theorem dX6_hungOn_17 : decode cX6_hungOn 17 = .ok (.iload_n 1, 1) := by decide +kernel
theorem dX6_hungOn_18 : decode cX6_hungOn 18 = .ok (.bipush 15, 2) := by decide +kernel
theorem dX6_hungOn_20 : decode cX6_hungOn 20 = .ok (.iadd, 1) := by decide +kernel
theorem dX6_hungOn_21 : decode cX6_hungOn 21 = .ok (.iload_n 3, 1) := by decide +kernel
theorem dX6_hungOn_22 : decode cX6_hungOn 22 = .ok (.iadd, 1) := by decide +kernel
theorem dX6_hungOn_23 : decode cX6_hungOn 23 = .ok (.iaload, 1) := by decide +kernel
theorem dX6_hungOn_24 : decode cX6_hungOn 24 = .ok (.ifCond .le 7, 3) := by decide +kernel
theorem dX6_hungOn_27 : decode cX6_hungOn 27 = .ok (.iconst 1, 1) := by decide +kernel
theorem dX6_hungOn_28 : decode cX6_hungOn 28 = .ok (.goto 4, 3) := by decide +kernel
theorem dX6_hungOn_31 : decode cX6_hungOn 31 = .ok (.iconst 0, 1) := by decide +kernel
theorem dX6_hungOn_32 : decode cX6_hungOn 32 = .ok (.iadd, 1) := by decide +kernel
theorem dX6_hungOn_33 : decode cX6_hungOn 33 = .ok (.istore_n 2, 1) := by decide +kernel
theorem dX6_hungOn_34 : decode cX6_hungOn 34 = .ok (.iinc 3 1, 3) := by decide +kernel
theorem dX6_hungOn_37 : decode cX6_hungOn 37 = .ok (.goto (-33), 3) := by decide +kernel
theorem dX6_hungOn_40 : decode cX6_hungOn 40 = .ok (.iload_n 2, 1) := by decide +kernel
theorem dX6_hungOn_41 : decode cX6_hungOn 41 = .ok (.ireturn, 1) := by decide +kernel
theorem dX6_isFreeOn_0 : decode cX6_isFreeOn 0 = .ok (.aload_n 0, 1) := by decide +kernel
theorem dX6_isFreeOn_1 : decode cX6_isFreeOn 1 = .ok (.getfield 7, 3) := by decide +kernel
theorem dX6_isFreeOn_4 : decode cX6_isFreeOn 4 = .ok (.iload_n 1, 1) := by decide +kernel
theorem dX6_isFreeOn_5 : decode cX6_isFreeOn 5 = .ok (.bipush 15, 2) := by decide +kernel
theorem dX6_isFreeOn_7 : decode cX6_isFreeOn 7 = .ok (.iadd, 1) := by decide +kernel
theorem dX6_isFreeOn_8 : decode cX6_isFreeOn 8 = .ok (.iload_n 2, 1) := by decide +kernel
theorem dX6_isFreeOn_9 : decode cX6_isFreeOn 9 = .ok (.iadd, 1) := by decide +kernel
theorem dX6_isFreeOn_10 : decode cX6_isFreeOn 10 = .ok (.iaload, 1) := by decide +kernel
theorem dX6_isFreeOn_11 : decode cX6_isFreeOn 11 = .ok (.ifCond .ne 21, 3) := by decide +kernel
theorem dX6_isFreeOn_14 : decode cX6_isFreeOn 14 = .ok (.aload_n 0, 1) := by decide +kernel
theorem dX6_isFreeOn_15 : decode cX6_isFreeOn 15 = .ok (.getfield 7, 3) := by decide +kernel
theorem dX6_isFreeOn_18 : decode cX6_isFreeOn 18 = .ok (.iload_n 1, 1) := by decide +kernel
theorem dX6_isFreeOn_19 : decode cX6_isFreeOn 19 = .ok (.bipush 20, 2) := by decide +kernel
theorem dX6_isFreeOn_21 : decode cX6_isFreeOn 21 = .ok (.iadd, 1) := by decide +kernel
theorem dX6_isFreeOn_22 : decode cX6_isFreeOn 22 = .ok (.iload_n 2, 1) := by decide +kernel
theorem dX6_isFreeOn_23 : decode cX6_isFreeOn 23 = .ok (.iadd, 1) := by decide +kernel
theorem dX6_isFreeOn_24 : decode cX6_isFreeOn 24 = .ok (.iaload, 1) := by decide +kernel
theorem dX6_isFreeOn_25 : decode cX6_isFreeOn 25 = .ok (.ifCond .ne 7, 3) := by decide +kernel
theorem dX6_isFreeOn_28 : decode cX6_isFreeOn 28 = .ok (.iconst 1, 1) := by decide +kernel
theorem dX6_isFreeOn_29 : decode cX6_isFreeOn 29 = .ok (.goto 4, 3) := by decide +kernel
theorem dX6_isFreeOn_32 : decode cX6_isFreeOn 32 = .ok (.iconst 0, 1) := by decide +kernel
theorem dX6_isFreeOn_33 : decode cX6_isFreeOn 33 = .ok (.ireturn, 1) := by decide +kernel
theorem dX6_whoReaches_0 : decode cX6_whoReaches 0 = .ok (.iconst 0, 1) := by decide +kernel
theorem dX6_whoReaches_1 : decode cX6_whoReaches 1 = .ok (.istore_n 2, 1) := by decide +kernel
theorem dX6_whoReaches_2 : decode cX6_whoReaches 2 = .ok (.iconst 0, 1) := by decide +kernel
theorem dX6_whoReaches_3 : decode cX6_whoReaches 3 = .ok (.istore_n 3, 1) := by decide +kernel
theorem dX6_whoReaches_4 : decode cX6_whoReaches 4 = .ok (.iload_n 3, 1) := by decide +kernel
theorem dX6_whoReaches_5 : decode cX6_whoReaches 5 = .ok (.aload_n 0, 1) := by decide +kernel
theorem dX6_whoReaches_6 : decode cX6_whoReaches 6 = .ok (.getfield 144, 3) := by decide +kernel
theorem dX6_whoReaches_9 : decode cX6_whoReaches 9 = .ok (.if_icmp .ge 33, 3) := by decide +kernel
theorem dX6_whoReaches_12 : decode cX6_whoReaches 12 = .ok (.iload_n 2, 1) := by decide +kernel
theorem dX6_whoReaches_13 : decode cX6_whoReaches 13 = .ok (.aload_n 0, 1) := by decide +kernel
theorem dX6_whoReaches_14 : decode cX6_whoReaches 14 = .ok (.iconst 0, 1) := by decide +kernel
theorem dX6_whoReaches_15 : decode cX6_whoReaches 15 = .ok (.iload_n 3, 1) := by decide +kernel
theorem dX6_whoReaches_16 : decode cX6_whoReaches 16 = .ok (.invokevirtual 169, 3) := by decide +kernel
theorem dX6_whoReaches_19 : decode cX6_whoReaches 19 = .ok (.iload_n 1, 1) := by decide +kernel
theorem dX6_whoReaches_20 : decode cX6_whoReaches 20 = .ok (.ishr, 1) := by decide +kernel
theorem dX6_whoReaches_21 : decode cX6_whoReaches 21 = .ok (.iconst 1, 1) := by decide +kernel
theorem dX6_whoReaches_22 : decode cX6_whoReaches 22 = .ok (.iand, 1) := by decide +kernel
theorem dX6_whoReaches_23 : decode cX6_whoReaches 23 = .ok (.iconst 1, 1) := by decide +kernel
theorem dX6_whoReaches_24 : decode cX6_whoReaches 24 = .ok (.if_icmp .ne 9, 3) := by decide +kernel
theorem dX6_whoReaches_27 : decode cX6_whoReaches 27 = .ok (.iconst 1, 1) := by decide +kernel
theorem dX6_whoReaches_28 : decode cX6_whoReaches 28 = .ok (.iload_n 3, 1) := by decide +kernel
theorem dX6_whoReaches_29 : decode cX6_whoReaches 29 = .ok (.ishl, 1) := by decide +kernel
theorem dX6_whoReaches_30 : decode cX6_whoReaches 30 = .ok (.goto 4, 3) := by decide +kernel
theorem dX6_whoReaches_33 : decode cX6_whoReaches 33 = .ok (.iconst 0, 1) := by decide +kernel
theorem dX6_whoReaches_34 : decode cX6_whoReaches 34 = .ok (.ior, 1) := by decide +kernel
theorem dX6_whoReaches_35 : decode cX6_whoReaches 35 = .ok (.istore_n 2, 1) := by decide +kernel
theorem dX6_whoReaches_36 : decode cX6_whoReaches 36 = .ok (.iinc 3 1, 3) := by decide +kernel
theorem dX6_whoReaches_39 : decode cX6_whoReaches 39 = .ok (.goto (-35), 3) := by decide +kernel
theorem dX6_whoReaches_42 : decode cX6_whoReaches 42 = .ok (.iload_n 2, 1) := by decide +kernel
theorem dX6_whoReaches_43 : decode cX6_whoReaches 43 = .ok (.ireturn, 1) := by decide +kernel
theorem dX6_rule_0 : decode cX6_rule 0 = .ok (.iconst 0, 1) := by decide +kernel
theorem dX6_rule_1 : decode cX6_rule 1 = .ok (.istore_n 2, 1) := by decide +kernel
theorem dX6_rule_2 : decode cX6_rule 2 = .ok (.iconst 0, 1) := by decide +kernel
theorem dX6_rule_3 : decode cX6_rule 3 = .ok (.istore_n 3, 1) := by decide +kernel
theorem dX6_rule_4 : decode cX6_rule 4 = .ok (.iconst 0, 1) := by decide +kernel
theorem dX6_rule_5 : decode cX6_rule 5 = .ok (.istore 4, 2) := by decide +kernel
theorem dX6_rule_7 : decode cX6_rule 7 = .ok (.iload 4, 2) := by decide +kernel
theorem dX6_rule_9 : decode cX6_rule 9 = .ok (.aload_n 0, 1) := by decide +kernel
theorem dX6_rule_10 : decode cX6_rule 10 = .ok (.getfield 144, 3) := by decide +kernel
theorem dX6_rule_13 : decode cX6_rule 13 = .ok (.if_icmp .ge 30, 3) := by decide +kernel
theorem dX6_rule_16 : decode cX6_rule 16 = .ok (.iload_n 2, 1) := by decide +kernel
theorem dX6_rule_17 : decode cX6_rule 17 = .ok (.aload_n 0, 1) := by decide +kernel
theorem dX6_rule_18 : decode cX6_rule 18 = .ok (.iconst 0, 1) := by decide +kernel
theorem dX6_rule_19 : decode cX6_rule 19 = .ok (.iload 4, 2) := by decide +kernel
theorem dX6_rule_21 : decode cX6_rule 21 = .ok (.invokevirtual 175, 3) := by decide +kernel
theorem dX6_rule_24 : decode cX6_rule 24 = .ok (.ifCond .eq 10, 3) := by decide +kernel
theorem dX6_rule_27 : decode cX6_rule 27 = .ok (.iconst 1, 1) := by decide +kernel
theorem dX6_rule_28 : decode cX6_rule 28 = .ok (.iload 4, 2) := by decide +kernel
theorem dX6_rule_30 : decode cX6_rule 30 = .ok (.ishl, 1) := by decide +kernel
theorem dX6_rule_31 : decode cX6_rule 31 = .ok (.goto 4, 3) := by decide +kernel
theorem dX6_rule_34 : decode cX6_rule 34 = .ok (.iconst 0, 1) := by decide +kernel
theorem dX6_rule_35 : decode cX6_rule 35 = .ok (.ior, 1) := by decide +kernel
theorem dX6_rule_36 : decode cX6_rule 36 = .ok (.istore_n 2, 1) := by decide +kernel
theorem dX6_rule_37 : decode cX6_rule 37 = .ok (.iinc 4 1, 3) := by decide +kernel
theorem dX6_rule_40 : decode cX6_rule 40 = .ok (.goto (-33), 3) := by decide +kernel
theorem dX6_rule_43 : decode cX6_rule 43 = .ok (.iconst 0, 1) := by decide +kernel
theorem dX6_rule_44 : decode cX6_rule 44 = .ok (.istore 4, 2) := by decide +kernel
theorem dX6_rule_46 : decode cX6_rule 46 = .ok (.iload 4, 2) := by decide +kernel
theorem dX6_rule_48 : decode cX6_rule 48 = .ok (.bipush 8, 2) := by decide +kernel
theorem dX6_rule_50 : decode cX6_rule 50 = .ok (.if_icmp .ge 29, 3) := by decide +kernel
theorem dX6_rule_53 : decode cX6_rule 53 = .ok (.iload_n 3, 1) := by decide +kernel
theorem dX6_rule_54 : decode cX6_rule 54 = .ok (.aload_n 0, 1) := by decide +kernel
theorem dX6_rule_55 : decode cX6_rule 55 = .ok (.iload 4, 2) := by decide +kernel
theorem dX6_rule_57 : decode cX6_rule 57 = .ok (.invokevirtual 179, 3) := by decide +kernel
theorem dX6_rule_60 : decode cX6_rule 60 = .ok (.ifCond .ne 10, 3) := by decide +kernel
theorem dX6_rule_63 : decode cX6_rule 63 = .ok (.iconst 1, 1) := by decide +kernel
theorem dX6_rule_64 : decode cX6_rule 64 = .ok (.iload 4, 2) := by decide +kernel
theorem dX6_rule_66 : decode cX6_rule 66 = .ok (.ishl, 1) := by decide +kernel
theorem dX6_rule_67 : decode cX6_rule 67 = .ok (.goto 4, 3) := by decide +kernel
theorem dX6_rule_70 : decode cX6_rule 70 = .ok (.iconst 0, 1) := by decide +kernel
theorem dX6_rule_71 : decode cX6_rule 71 = .ok (.ior, 1) := by decide +kernel
theorem dX6_rule_72 : decode cX6_rule 72 = .ok (.istore_n 3, 1) := by decide +kernel
theorem dX6_rule_73 : decode cX6_rule 73 = .ok (.iinc 4 1, 3) := by decide +kernel
theorem dX6_rule_76 : decode cX6_rule 76 = .ok (.goto (-30), 3) := by decide +kernel
theorem dX6_rule_79 : decode cX6_rule 79 = .ok (.iload_n 1, 1) := by decide +kernel
theorem dX6_rule_80 : decode cX6_rule 80 = .ok (.tableswitch 71 0 5 #[40, 45, 53, 59, 67, 69], 40) := by decide +kernel
theorem dX6_rule_120 : decode cX6_rule 120 = .ok (.aload_n 0, 1) := by decide +kernel
theorem dX6_rule_121 : decode cX6_rule 121 = .ok (.getfield 144, 3) := by decide +kernel
theorem dX6_rule_124 : decode cX6_rule 124 = .ok (.ireturn, 1) := by decide +kernel
theorem dX6_rule_125 : decode cX6_rule 125 = .ok (.aload_n 0, 1) := by decide +kernel
theorem dX6_rule_126 : decode cX6_rule 126 = .ok (.getfield 7, 3) := by decide +kernel
theorem dX6_rule_129 : decode cX6_rule 129 = .ok (.bipush 25, 2) := by decide +kernel
theorem dX6_rule_131 : decode cX6_rule 131 = .ok (.iaload, 1) := by decide +kernel
theorem dX6_rule_132 : decode cX6_rule 132 = .ok (.ireturn, 1) := by decide +kernel
theorem dX6_rule_133 : decode cX6_rule 133 = .ok (.aload_n 0, 1) := by decide +kernel
theorem dX6_rule_134 : decode cX6_rule 134 = .ok (.iconst 0, 1) := by decide +kernel
theorem dX6_rule_135 : decode cX6_rule 135 = .ok (.invokevirtual 182, 3) := by decide +kernel
theorem dX6_rule_138 : decode cX6_rule 138 = .ok (.ireturn, 1) := by decide +kernel
theorem dX6_rule_139 : decode cX6_rule 139 = .ok (.aload_n 0, 1) := by decide +kernel
theorem dX6_rule_140 : decode cX6_rule 140 = .ok (.getfield 7, 3) := by decide +kernel
theorem dX6_rule_143 : decode cX6_rule 143 = .ok (.bipush 52, 2) := by decide +kernel
theorem dX6_rule_145 : decode cX6_rule 145 = .ok (.iaload, 1) := by decide +kernel
theorem dX6_rule_146 : decode cX6_rule 146 = .ok (.ireturn, 1) := by decide +kernel
theorem dX6_rule_147 : decode cX6_rule 147 = .ok (.iload_n 2, 1) := by decide +kernel
theorem dX6_rule_148 : decode cX6_rule 148 = .ok (.ireturn, 1) := by decide +kernel
theorem dX6_rule_149 : decode cX6_rule 149 = .ok (.iload_n 3, 1) := by decide +kernel
theorem dX6_rule_150 : decode cX6_rule 150 = .ok (.ireturn, 1) := by decide +kernel
theorem dX6_rule_151 : decode cX6_rule 151 = .ok (.iconst (-1), 1) := by decide +kernel
theorem dX6_rule_152 : decode cX6_rule 152 = .ok (.ireturn, 1) := by decide +kernel
theorem dX6_one_0 : decode cX6_one 0 = .ok (.aload_n 0, 1) := by decide +kernel
theorem dX6_one_1 : decode cX6_one 1 = .ok (.iload_n 1, 1) := by decide +kernel
theorem dX6_one_2 : decode cX6_one 2 = .ok (.invokevirtual 185, 3) := by decide +kernel
theorem dX6_one_5 : decode cX6_one 5 = .ok (.ifCond .ne 5, 3) := by decide +kernel
theorem dX6_one_8 : decode cX6_one 8 = .ok (.iconst (-1), 1) := by decide +kernel
theorem dX6_one_9 : decode cX6_one 9 = .ok (.ireturn, 1) := by decide +kernel
theorem dX6_one_10 : decode cX6_one 10 = .ok (.iload_n 2, 1) := by decide +kernel
theorem dX6_one_11 : decode cX6_one 11 = .ok (.tableswitch 123 0 6 #[41, 41, 41, 52, 81, 88, 95], 41) := by decide +kernel
theorem dX6_one_52 : decode cX6_one 52 = .ok (.aload_n 0, 1) := by decide +kernel
theorem dX6_one_53 : decode cX6_one 53 = .ok (.getfield 7, 3) := by decide +kernel
theorem dX6_one_56 : decode cX6_one 56 = .ok (.iconst 5, 1) := by decide +kernel
theorem dX6_one_57 : decode cX6_one 57 = .ok (.iload_n 2, 1) := by decide +kernel
theorem dX6_one_58 : decode cX6_one 58 = .ok (.imul, 1) := by decide +kernel
theorem dX6_one_59 : decode cX6_one 59 = .ok (.iload_n 1, 1) := by decide +kernel
theorem dX6_one_60 : decode cX6_one 60 = .ok (.iadd, 1) := by decide +kernel
theorem dX6_one_61 : decode cX6_one 61 = .ok (.iaload, 1) := by decide +kernel
theorem dX6_one_62 : decode cX6_one 62 = .ok (.ireturn, 1) := by decide +kernel
theorem dX6_one_63 : decode cX6_one 63 = .ok (.aload_n 0, 1) := by decide +kernel
theorem dX6_one_64 : decode cX6_one 64 = .ok (.getfield 7, 3) := by decide +kernel
theorem dX6_one_67 : decode cX6_one 67 = .ok (.bipush 15, 2) := by decide +kernel
theorem dX6_one_69 : decode cX6_one 69 = .ok (.iload_n 1, 1) := by decide +kernel
theorem dX6_one_70 : decode cX6_one 70 = .ok (.iadd, 1) := by decide +kernel
theorem dX6_one_71 : decode cX6_one 71 = .ok (.iaload, 1) := by decide +kernel
theorem dX6_one_72 : decode cX6_one 72 = .ok (.ifCond .ne 8, 3) := by decide +kernel
theorem dX6_one_75 : decode cX6_one 75 = .ok (.bipush (-4), 2) := by decide +kernel
theorem dX6_one_77 : decode cX6_one 77 = .ok (.goto 14, 3) := by decide +kernel
theorem dX6_one_80 : decode cX6_one 80 = .ok (.aload_n 0, 1) := by decide +kernel
theorem dX6_one_81 : decode cX6_one 81 = .ok (.getfield 7, 3) := by decide +kernel
theorem dX6_one_84 : decode cX6_one 84 = .ok (.bipush 15, 2) := by decide +kernel
theorem dX6_one_86 : decode cX6_one 86 = .ok (.iload_n 1, 1) := by decide +kernel
theorem dX6_one_87 : decode cX6_one 87 = .ok (.iadd, 1) := by decide +kernel
theorem dX6_one_88 : decode cX6_one 88 = .ok (.iaload, 1) := by decide +kernel
theorem dX6_one_89 : decode cX6_one 89 = .ok (.iconst 1, 1) := by decide +kernel
theorem dX6_one_90 : decode cX6_one 90 = .ok (.isub, 1) := by decide +kernel
theorem dX6_one_91 : decode cX6_one 91 = .ok (.ireturn, 1) := by decide +kernel
theorem dX6_one_92 : decode cX6_one 92 = .ok (.aload_n 0, 1) := by decide +kernel
theorem dX6_one_93 : decode cX6_one 93 = .ok (.iconst 0, 1) := by decide +kernel
theorem dX6_one_94 : decode cX6_one 94 = .ok (.iload_n 1, 1) := by decide +kernel
theorem dX6_one_95 : decode cX6_one 95 = .ok (.invokevirtual 169, 3) := by decide +kernel
theorem dX6_one_98 : decode cX6_one 98 = .ok (.ireturn, 1) := by decide +kernel
theorem dX6_one_99 : decode cX6_one 99 = .ok (.aload_n 0, 1) := by decide +kernel
theorem dX6_one_100 : decode cX6_one 100 = .ok (.iconst 0, 1) := by decide +kernel
theorem dX6_one_101 : decode cX6_one 101 = .ok (.iload_n 1, 1) := by decide +kernel
theorem dX6_one_102 : decode cX6_one 102 = .ok (.invokevirtual 189, 3) := by decide +kernel
theorem dX6_one_105 : decode cX6_one 105 = .ok (.ireturn, 1) := by decide +kernel
theorem dX6_one_106 : decode cX6_one 106 = .ok (.aload_n 0, 1) := by decide +kernel
theorem dX6_one_107 : decode cX6_one 107 = .ok (.getfield 7, 3) := by decide +kernel
theorem dX6_one_110 : decode cX6_one 110 = .ok (.bipush 15, 2) := by decide +kernel
theorem dX6_one_112 : decode cX6_one 112 = .ok (.iload_n 1, 1) := by decide +kernel
theorem dX6_one_113 : decode cX6_one 113 = .ok (.iadd, 1) := by decide +kernel
theorem dX6_one_114 : decode cX6_one 114 = .ok (.iaload, 1) := by decide +kernel
theorem dX6_one_115 : decode cX6_one 115 = .ok (.ifCond .le 7, 3) := by decide +kernel
theorem dX6_one_118 : decode cX6_one 118 = .ok (.iconst 1, 1) := by decide +kernel
theorem dX6_one_119 : decode cX6_one 119 = .ok (.goto 14, 3) := by decide +kernel
theorem dX6_one_122 : decode cX6_one 122 = .ok (.iconst 2, 1) := by decide +kernel
theorem dX6_one_123 : decode cX6_one 123 = .ok (.aload_n 0, 1) := by decide +kernel
theorem dX6_one_124 : decode cX6_one 124 = .ok (.getfield 7, 3) := by decide +kernel
theorem dX6_one_127 : decode cX6_one 127 = .ok (.bipush 20, 2) := by decide +kernel
theorem dX6_one_129 : decode cX6_one 129 = .ok (.iload_n 1, 1) := by decide +kernel
theorem dX6_one_130 : decode cX6_one 130 = .ok (.iadd, 1) := by decide +kernel
theorem dX6_one_131 : decode cX6_one 131 = .ok (.iaload, 1) := by decide +kernel
theorem dX6_one_132 : decode cX6_one 132 = .ok (.imul, 1) := by decide +kernel
theorem dX6_one_133 : decode cX6_one 133 = .ok (.ireturn, 1) := by decide +kernel
theorem dX6_one_134 : decode cX6_one 134 = .ok (.iconst (-1), 1) := by decide +kernel
theorem dX6_one_135 : decode cX6_one 135 = .ok (.ireturn, 1) := by decide +kernel
theorem dX6_wall_0 : decode cX6_wall 0 = .ok (.aload_n 0, 1) := by decide +kernel
theorem dX6_wall_1 : decode cX6_wall 1 = .ok (.iload_n 1, 1) := by decide +kernel
theorem dX6_wall_2 : decode cX6_wall 2 = .ok (.invokevirtual 192, 3) := by decide +kernel
theorem dX6_wall_5 : decode cX6_wall 5 = .ok (.ifCond .eq 15, 3) := by decide +kernel
theorem dX6_wall_8 : decode cX6_wall 8 = .ok (.iload_n 2, 1) := by decide +kernel
theorem dX6_wall_9 : decode cX6_wall 9 = .ok (.i2l, 1) := by decide +kernel
theorem dX6_wall_10 : decode cX6_wall 10 = .ok (.lconst 0, 1) := by decide +kernel
theorem dX6_wall_11 : decode cX6_wall 11 = .ok (.ldc2_w 195, 3) := by decide +kernel
theorem dX6_wall_14 : decode cX6_wall 14 = .ok (.invokestatic 49, 3) := by decide +kernel
theorem dX6_wall_17 : decode cX6_wall 17 = .ok (.ifCond .ne 5, 3) := by decide +kernel
theorem dX6_wall_20 : decode cX6_wall 20 = .ok (.iconst (-1), 1) := by decide +kernel
theorem dX6_wall_21 : decode cX6_wall 21 = .ok (.ireturn, 1) := by decide +kernel
theorem dX6_wall_22 : decode cX6_wall 22 = .ok (.iconst 0, 1) := by decide +kernel
theorem dX6_wall_23 : decode cX6_wall 23 = .ok (.istore_n 3, 1) := by decide +kernel
theorem dX6_wall_24 : decode cX6_wall 24 = .ok (.iconst 0, 1) := by decide +kernel
theorem dX6_wall_25 : decode cX6_wall 25 = .ok (.istore 4, 2) := by decide +kernel
theorem dX6_wall_27 : decode cX6_wall 27 = .ok (.iload 4, 2) := by decide +kernel
theorem dX6_wall_29 : decode cX6_wall 29 = .ok (.aload_n 0, 1) := by decide +kernel
theorem dX6_wall_30 : decode cX6_wall 30 = .ok (.getfield 144, 3) := by decide +kernel
theorem dX6_wall_33 : decode cX6_wall 33 = .ok (.if_icmp .ge 31, 3) := by decide +kernel
theorem dX6_wall_36 : decode cX6_wall 36 = .ok (.iload_n 3, 1) := by decide +kernel
theorem dX6_wall_37 : decode cX6_wall 37 = .ok (.aload_n 0, 1) := by decide +kernel
theorem dX6_wall_38 : decode cX6_wall 38 = .ok (.iconst 0, 1) := by decide +kernel
theorem dX6_wall_39 : decode cX6_wall 39 = .ok (.iload_n 1, 1) := by decide +kernel
theorem dX6_wall_40 : decode cX6_wall 40 = .ok (.iload 4, 2) := by decide +kernel
theorem dX6_wall_42 : decode cX6_wall 42 = .ok (.invokevirtual 163, 3) := by decide +kernel
theorem dX6_wall_45 : decode cX6_wall 45 = .ok (.ifCond .eq 10, 3) := by decide +kernel
theorem dX6_wall_48 : decode cX6_wall 48 = .ok (.iconst 1, 1) := by decide +kernel
theorem dX6_wall_49 : decode cX6_wall 49 = .ok (.iload 4, 2) := by decide +kernel
theorem dX6_wall_51 : decode cX6_wall 51 = .ok (.ishl, 1) := by decide +kernel
theorem dX6_wall_52 : decode cX6_wall 52 = .ok (.goto 4, 3) := by decide +kernel
theorem dX6_wall_55 : decode cX6_wall 55 = .ok (.iconst 0, 1) := by decide +kernel
theorem dX6_wall_56 : decode cX6_wall 56 = .ok (.ior, 1) := by decide +kernel
theorem dX6_wall_57 : decode cX6_wall 57 = .ok (.istore_n 3, 1) := by decide +kernel
theorem dX6_wall_58 : decode cX6_wall 58 = .ok (.iinc 4 1, 3) := by decide +kernel
theorem dX6_wall_61 : decode cX6_wall 61 = .ok (.goto (-34), 3) := by decide +kernel
theorem dX6_wall_64 : decode cX6_wall 64 = .ok (.iload_n 2, 1) := by decide +kernel
theorem dX6_wall_65 : decode cX6_wall 65 = .ok (.iconst 2, 1) := by decide +kernel
theorem dX6_wall_66 : decode cX6_wall 66 = .ok (.if_icmp .ge 20, 3) := by decide +kernel
theorem dX6_wall_69 : decode cX6_wall 69 = .ok (.aload_n 0, 1) := by decide +kernel
theorem dX6_wall_70 : decode cX6_wall 70 = .ok (.getfield 7, 3) := by decide +kernel
theorem dX6_wall_73 : decode cX6_wall 73 = .ok (.bipush 26, 2) := by decide +kernel
theorem dX6_wall_75 : decode cX6_wall 75 = .ok (.bipush 9, 2) := by decide +kernel
theorem dX6_wall_77 : decode cX6_wall 77 = .ok (.iload_n 2, 1) := by decide +kernel
theorem dX6_wall_78 : decode cX6_wall 78 = .ok (.imul, 1) := by decide +kernel
theorem dX6_wall_79 : decode cX6_wall 79 = .ok (.iadd, 1) := by decide +kernel
theorem dX6_wall_80 : decode cX6_wall 80 = .ok (.iload_n 1, 1) := by decide +kernel
theorem dX6_wall_81 : decode cX6_wall 81 = .ok (.iadd, 1) := by decide +kernel
theorem dX6_wall_82 : decode cX6_wall 82 = .ok (.iaload, 1) := by decide +kernel
theorem dX6_wall_83 : decode cX6_wall 83 = .ok (.goto 18, 3) := by decide +kernel
theorem dX6_wall_86 : decode cX6_wall 86 = .ok (.iload_n 2, 1) := by decide +kernel
theorem dX6_wall_87 : decode cX6_wall 87 = .ok (.iconst 2, 1) := by decide +kernel
theorem dX6_wall_88 : decode cX6_wall 88 = .ok (.if_icmp .ne 12, 3) := by decide +kernel
theorem dX6_wall_91 : decode cX6_wall 91 = .ok (.aload_n 0, 1) := by decide +kernel
theorem dX6_wall_92 : decode cX6_wall 92 = .ok (.iconst 0, 1) := by decide +kernel
theorem dX6_wall_93 : decode cX6_wall 93 = .ok (.iload_n 1, 1) := by decide +kernel
theorem dX6_wall_94 : decode cX6_wall 94 = .ok (.invokevirtual 152, 3) := by decide +kernel
theorem dX6_wall_97 : decode cX6_wall 97 = .ok (.goto 4, 3) := by decide +kernel
theorem dX6_wall_100 : decode cX6_wall 100 = .ok (.iload_n 3, 1) := by decide +kernel
theorem dX6_wall_101 : decode cX6_wall 101 = .ok (.ireturn, 1) := by decide +kernel
theorem dX6_room_0 : decode cX6_room 0 = .ok (.iload_n 1, 1) := by decide +kernel
theorem dX6_room_1 : decode cX6_room 1 = .ok (.invokestatic 197, 3) := by decide +kernel
theorem dX6_room_4 : decode cX6_room 4 = .ok (.ifCond .eq 13, 3) := by decide +kernel
theorem dX6_room_7 : decode cX6_room 7 = .ok (.iload_n 2, 1) := by decide +kernel
theorem dX6_room_8 : decode cX6_room 8 = .ok (.i2l, 1) := by decide +kernel
theorem dX6_room_9 : decode cX6_room 9 = .ok (.lconst 0, 1) := by decide +kernel
theorem dX6_room_10 : decode cX6_room 10 = .ok (.lconst 1, 1) := by decide +kernel
theorem dX6_room_11 : decode cX6_room 11 = .ok (.invokestatic 49, 3) := by decide +kernel
theorem dX6_room_14 : decode cX6_room 14 = .ok (.ifCond .ne 7, 3) := by decide +kernel
theorem dX6_room_17 : decode cX6_room 17 = .ok (.iconst (-1), 1) := by decide +kernel
theorem dX6_room_18 : decode cX6_room 18 = .ok (.goto 24, 3) := by decide +kernel
theorem dX6_room_21 : decode cX6_room 21 = .ok (.iload_n 2, 1) := by decide +kernel
theorem dX6_room_22 : decode cX6_room 22 = .ok (.ifCond .ne 15, 3) := by decide +kernel
theorem dX6_room_25 : decode cX6_room 25 = .ok (.aload_n 0, 1) := by decide +kernel
theorem dX6_room_26 : decode cX6_room 26 = .ok (.getfield 7, 3) := by decide +kernel
theorem dX6_room_29 : decode cX6_room 29 = .ok (.bipush 44, 2) := by decide +kernel
theorem dX6_room_31 : decode cX6_room 31 = .ok (.iload_n 1, 1) := by decide +kernel
theorem dX6_room_32 : decode cX6_room 32 = .ok (.iadd, 1) := by decide +kernel
theorem dX6_room_33 : decode cX6_room 33 = .ok (.iaload, 1) := by decide +kernel
theorem dX6_room_34 : decode cX6_room 34 = .ok (.goto 8, 3) := by decide +kernel
theorem dX6_room_37 : decode cX6_room 37 = .ok (.aload_n 0, 1) := by decide +kernel
theorem dX6_room_38 : decode cX6_room 38 = .ok (.iload_n 1, 1) := by decide +kernel
theorem dX6_room_39 : decode cX6_room 39 = .ok (.invokevirtual 179, 3) := by decide +kernel
theorem dX6_room_42 : decode cX6_room 42 = .ok (.ireturn, 1) := by decide +kernel
theorem dX6_act_0 : decode cX6_act 0 = .ok (.iload_n 1, 1) := by decide +kernel
theorem dX6_act_1 : decode cX6_act 1 = .ok (.i2l, 1) := by decide +kernel
theorem dX6_act_2 : decode cX6_act 2 = .ok (.lconst 0, 1) := by decide +kernel
theorem dX6_act_3 : decode cX6_act 3 = .ok (.aload_n 0, 1) := by decide +kernel
theorem dX6_act_4 : decode cX6_act 4 = .ok (.getfield 7, 3) := by decide +kernel
theorem dX6_act_7 : decode cX6_act 7 = .ok (.bipush 52, 2) := by decide +kernel
theorem dX6_act_9 : decode cX6_act 9 = .ok (.iaload, 1) := by decide +kernel
theorem dX6_act_10 : decode cX6_act 10 = .ok (.iconst 1, 1) := by decide +kernel
theorem dX6_act_11 : decode cX6_act 11 = .ok (.isub, 1) := by decide +kernel
theorem dX6_act_12 : decode cX6_act 12 = .ok (.i2l, 1) := by decide +kernel
theorem dX6_act_13 : decode cX6_act 13 = .ok (.invokestatic 49, 3) := by decide +kernel
theorem dX6_act_16 : decode cX6_act 16 = .ok (.ifCond .eq 30, 3) := by decide +kernel
theorem dX6_act_19 : decode cX6_act 19 = .ok (.iload_n 2, 1) := by decide +kernel
theorem dX6_act_20 : decode cX6_act 20 = .ok (.i2l, 1) := by decide +kernel
theorem dX6_act_21 : decode cX6_act 21 = .ok (.lconst 0, 1) := by decide +kernel
theorem dX6_act_22 : decode cX6_act 22 = .ok (.lconst 1, 1) := by decide +kernel
theorem dX6_act_23 : decode cX6_act 23 = .ok (.invokestatic 49, 3) := by decide +kernel
theorem dX6_act_26 : decode cX6_act 26 = .ok (.ifCond .eq 20, 3) := by decide +kernel
theorem dX6_act_29 : decode cX6_act 29 = .ok (.aload_n 0, 1) := by decide +kernel
theorem dX6_act_30 : decode cX6_act 30 = .ok (.getfield 7, 3) := by decide +kernel
theorem dX6_act_33 : decode cX6_act 33 = .ok (.bipush 53, 2) := by decide +kernel
theorem dX6_act_35 : decode cX6_act 35 = .ok (.bipush 6, 2) := by decide +kernel
theorem dX6_act_37 : decode cX6_act 37 = .ok (.iload_n 2, 1) := by decide +kernel
theorem dX6_act_38 : decode cX6_act 38 = .ok (.imul, 1) := by decide +kernel
theorem dX6_act_39 : decode cX6_act 39 = .ok (.iadd, 1) := by decide +kernel
theorem dX6_act_40 : decode cX6_act 40 = .ok (.iload_n 1, 1) := by decide +kernel
theorem dX6_act_41 : decode cX6_act 41 = .ok (.iadd, 1) := by decide +kernel
theorem dX6_act_42 : decode cX6_act 42 = .ok (.iaload, 1) := by decide +kernel
theorem dX6_act_43 : decode cX6_act 43 = .ok (.goto 4, 3) := by decide +kernel
theorem dX6_act_46 : decode cX6_act 46 = .ok (.iconst (-1), 1) := by decide +kernel
theorem dX6_act_47 : decode cX6_act 47 = .ok (.ireturn, 1) := by decide +kernel
theorem dX6_puts_0 : decode cX6_puts 0 = .ok (.iload_n 1, 1) := by decide +kernel
theorem dX6_puts_1 : decode cX6_puts 1 = .ok (.ifCond .ne 5, 3) := by decide +kernel
theorem dX6_puts_4 : decode cX6_puts 4 = .ok (.iconst (-1), 1) := by decide +kernel
theorem dX6_puts_5 : decode cX6_puts 5 = .ok (.ireturn, 1) := by decide +kernel
theorem dX6_puts_6 : decode cX6_puts 6 = .ok (.aload_n 0, 1) := by decide +kernel
theorem dX6_puts_7 : decode cX6_puts 7 = .ok (.getfield 7, 3) := by decide +kernel
theorem dX6_puts_10 : decode cX6_puts 10 = .ok (.iload_n 2, 1) := by decide +kernel
theorem dX6_puts_11 : decode cX6_puts 11 = .ok (.iaload, 1) := by decide +kernel
theorem dX6_puts_12 : decode cX6_puts 12 = .ok (.istore 4, 2) := by decide +kernel
theorem dX6_puts_14 : decode cX6_puts 14 = .ok (.aload_n 0, 1) := by decide +kernel
theorem dX6_puts_15 : decode cX6_puts 15 = .ok (.getfield 7, 3) := by decide +kernel
theorem dX6_puts_18 : decode cX6_puts 18 = .ok (.iload_n 2, 1) := by decide +kernel
theorem dX6_puts_19 : decode cX6_puts 19 = .ok (.iload_n 3, 1) := by decide +kernel
theorem dX6_puts_20 : decode cX6_puts 20 = .ok (.iastore, 1) := by decide +kernel
theorem dX6_puts_21 : decode cX6_puts 21 = .ok (.iload 4, 2) := by decide +kernel
theorem dX6_puts_23 : decode cX6_puts 23 = .ok (.ireturn, 1) := by decide +kernel
theorem dX6_alter_0 : decode cX6_alter 0 = .ok (.aload_n 0, 1) := by decide +kernel
theorem dX6_alter_1 : decode cX6_alter 1 = .ok (.aload_n 0, 1) := by decide +kernel
theorem dX6_alter_2 : decode cX6_alter 2 = .ok (.iload_n 1, 1) := by decide +kernel
theorem dX6_alter_3 : decode cX6_alter 3 = .ok (.invokevirtual 185, 3) := by decide +kernel
theorem dX6_alter_6 : decode cX6_alter 6 = .ok (.ifCond .eq 52, 3) := by decide +kernel
theorem dX6_alter_9 : decode cX6_alter 9 = .ok (.iload_n 2, 1) := by decide +kernel
theorem dX6_alter_10 : decode cX6_alter 10 = .ok (.i2l, 1) := by decide +kernel
theorem dX6_alter_11 : decode cX6_alter 11 = .ok (.lconst 0, 1) := by decide +kernel
theorem dX6_alter_12 : decode cX6_alter 12 = .ok (.ldc2_w 200, 3) := by decide +kernel
theorem dX6_alter_15 : decode cX6_alter 15 = .ok (.invokestatic 49, 3) := by decide +kernel
theorem dX6_alter_18 : decode cX6_alter 18 = .ok (.ifCond .eq 40, 3) := by decide +kernel
theorem dX6_alter_21 : decode cX6_alter 21 = .ok (.iload_n 3, 1) := by decide +kernel
theorem dX6_alter_22 : decode cX6_alter 22 = .ok (.i2l, 1) := by decide +kernel
theorem dX6_alter_23 : decode cX6_alter 23 = .ok (.lconst 0, 1) := by decide +kernel
theorem dX6_alter_24 : decode cX6_alter 24 = .ok (.iload_n 2, 1) := by decide +kernel
theorem dX6_alter_25 : decode cX6_alter 25 = .ok (.ifCond .ne 9, 3) := by decide +kernel
theorem dX6_alter_28 : decode cX6_alter 28 = .ok (.ldc2_w 195, 3) := by decide +kernel
theorem dX6_alter_31 : decode cX6_alter 31 = .ok (.goto 17, 3) := by decide +kernel
theorem dX6_alter_34 : decode cX6_alter 34 = .ok (.iload_n 2, 1) := by decide +kernel
theorem dX6_alter_35 : decode cX6_alter 35 = .ok (.iconst 1, 1) := by decide +kernel
theorem dX6_alter_36 : decode cX6_alter 36 = .ok (.if_icmp .ne 9, 3) := by decide +kernel
theorem dX6_alter_39 : decode cX6_alter 39 = .ok (.ldc2_w 195, 3) := by decide +kernel
theorem dX6_alter_42 : decode cX6_alter 42 = .ok (.goto 6, 3) := by decide +kernel
theorem dX6_alter_45 : decode cX6_alter 45 = .ok (.ldc2_w 150, 3) := by decide +kernel
theorem dX6_alter_48 : decode cX6_alter 48 = .ok (.invokestatic 49, 3) := by decide +kernel
theorem dX6_alter_51 : decode cX6_alter 51 = .ok (.ifCond .eq 7, 3) := by decide +kernel
theorem dX6_alter_54 : decode cX6_alter 54 = .ok (.iconst 1, 1) := by decide +kernel
theorem dX6_alter_55 : decode cX6_alter 55 = .ok (.goto 4, 3) := by decide +kernel
theorem dX6_alter_58 : decode cX6_alter 58 = .ok (.iconst 0, 1) := by decide +kernel
theorem dX6_alter_59 : decode cX6_alter 59 = .ok (.iconst 5, 1) := by decide +kernel
theorem dX6_alter_60 : decode cX6_alter 60 = .ok (.iload_n 2, 1) := by decide +kernel
theorem dX6_alter_61 : decode cX6_alter 61 = .ok (.imul, 1) := by decide +kernel
theorem dX6_alter_62 : decode cX6_alter 62 = .ok (.iload_n 1, 1) := by decide +kernel
theorem dX6_alter_63 : decode cX6_alter 63 = .ok (.iadd, 1) := by decide +kernel
theorem dX6_alter_64 : decode cX6_alter 64 = .ok (.iload_n 3, 1) := by decide +kernel
theorem dX6_alter_65 : decode cX6_alter 65 = .ok (.invokevirtual 202, 3) := by decide +kernel
theorem dX6_alter_68 : decode cX6_alter 68 = .ok (.ireturn, 1) := by decide +kernel
theorem dX6_price_0 : decode cX6_price 0 = .ok (.aload_n 0, 1) := by decide +kernel
theorem dX6_price_1 : decode cX6_price 1 = .ok (.iload_n 1, 1) := by decide +kernel
theorem dX6_price_2 : decode cX6_price 2 = .ok (.invokestatic 197, 3) := by decide +kernel
theorem dX6_price_5 : decode cX6_price 5 = .ok (.ifCond .eq 19, 3) := by decide +kernel
theorem dX6_price_8 : decode cX6_price 8 = .ok (.iload_n 2, 1) := by decide +kernel
theorem dX6_price_9 : decode cX6_price 9 = .ok (.i2l, 1) := by decide +kernel
theorem dX6_price_10 : decode cX6_price 10 = .ok (.lconst 0, 1) := by decide +kernel
theorem dX6_price_11 : decode cX6_price 11 = .ok (.ldc2_w 206, 3) := by decide +kernel
theorem dX6_price_14 : decode cX6_price 14 = .ok (.invokestatic 49, 3) := by decide +kernel
theorem dX6_price_17 : decode cX6_price 17 = .ok (.ifCond .eq 7, 3) := by decide +kernel
theorem dX6_price_20 : decode cX6_price 20 = .ok (.iconst 1, 1) := by decide +kernel
theorem dX6_price_21 : decode cX6_price 21 = .ok (.goto 4, 3) := by decide +kernel
theorem dX6_price_24 : decode cX6_price 24 = .ok (.iconst 0, 1) := by decide +kernel
theorem dX6_price_25 : decode cX6_price 25 = .ok (.bipush 44, 2) := by decide +kernel
theorem dX6_price_27 : decode cX6_price 27 = .ok (.iload_n 1, 1) := by decide +kernel
theorem dX6_price_28 : decode cX6_price 28 = .ok (.iadd, 1) := by decide +kernel
theorem dX6_price_29 : decode cX6_price 29 = .ok (.iload_n 2, 1) := by decide +kernel
theorem dX6_price_30 : decode cX6_price 30 = .ok (.invokevirtual 202, 3) := by decide +kernel
theorem dX6_price_33 : decode cX6_price 33 = .ok (.ireturn, 1) := by decide +kernel
theorem dX6_build_0 : decode cX6_build 0 = .ok (.iload_n 1, 1) := by decide +kernel
theorem dX6_build_1 : decode cX6_build 1 = .ok (.invokestatic 197, 3) := by decide +kernel
theorem dX6_build_4 : decode cX6_build 4 = .ok (.ifCond .eq 15, 3) := by decide +kernel
theorem dX6_build_7 : decode cX6_build 7 = .ok (.iload_n 2, 1) := by decide +kernel
theorem dX6_build_8 : decode cX6_build 8 = .ok (.invokestatic 197, 3) := by decide +kernel
theorem dX6_build_11 : decode cX6_build 11 = .ok (.ifCond .eq 8, 3) := by decide +kernel
theorem dX6_build_14 : decode cX6_build 14 = .ok (.iload_n 1, 1) := by decide +kernel
theorem dX6_build_15 : decode cX6_build 15 = .ok (.iload_n 2, 1) := by decide +kernel
theorem dX6_build_16 : decode cX6_build 16 = .ok (.if_icmp .ne 5, 3) := by decide +kernel
theorem dX6_build_19 : decode cX6_build 19 = .ok (.iconst (-1), 1) := by decide +kernel
theorem dX6_build_20 : decode cX6_build 20 = .ok (.ireturn, 1) := by decide +kernel
theorem dX6_build_21 : decode cX6_build 21 = .ok (.aload_n 0, 1) := by decide +kernel
theorem dX6_build_22 : decode cX6_build 22 = .ok (.getfield 7, 3) := by decide +kernel
theorem dX6_build_25 : decode cX6_build 25 = .ok (.bipush 25, 2) := by decide +kernel
theorem dX6_build_27 : decode cX6_build 27 = .ok (.iaload, 1) := by decide +kernel
theorem dX6_build_28 : decode cX6_build 28 = .ok (.istore_n 3, 1) := by decide +kernel
theorem dX6_build_29 : decode cX6_build 29 = .ok (.iload_n 3, 1) := by decide +kernel
theorem dX6_build_30 : decode cX6_build 30 = .ok (.bipush 9, 2) := by decide +kernel
theorem dX6_build_32 : decode cX6_build 32 = .ok (.if_icmp .ne 6, 3) := by decide +kernel
theorem dX6_build_35 : decode cX6_build 35 = .ok (.bipush (-3), 2) := by decide +kernel
theorem dX6_build_37 : decode cX6_build 37 = .ok (.ireturn, 1) := by decide +kernel
theorem dX6_build_38 : decode cX6_build 38 = .ok (.aload_n 0, 1) := by decide +kernel
theorem dX6_build_39 : decode cX6_build 39 = .ok (.getfield 7, 3) := by decide +kernel
theorem dX6_build_42 : decode cX6_build 42 = .ok (.bipush 26, 2) := by decide +kernel
theorem dX6_build_44 : decode cX6_build 44 = .ok (.iload_n 3, 1) := by decide +kernel
theorem dX6_build_45 : decode cX6_build 45 = .ok (.iadd, 1) := by decide +kernel
theorem dX6_build_46 : decode cX6_build 46 = .ok (.iload_n 1, 1) := by decide +kernel
theorem dX6_build_47 : decode cX6_build 47 = .ok (.iastore, 1) := by decide +kernel
theorem dX6_build_48 : decode cX6_build 48 = .ok (.aload_n 0, 1) := by decide +kernel
theorem dX6_build_49 : decode cX6_build 49 = .ok (.getfield 7, 3) := by decide +kernel
theorem dX6_build_52 : decode cX6_build 52 = .ok (.bipush 35, 2) := by decide +kernel
theorem dX6_build_54 : decode cX6_build 54 = .ok (.iload_n 3, 1) := by decide +kernel
theorem dX6_build_55 : decode cX6_build 55 = .ok (.iadd, 1) := by decide +kernel
theorem dX6_build_56 : decode cX6_build 56 = .ok (.iload_n 2, 1) := by decide +kernel
theorem dX6_build_57 : decode cX6_build 57 = .ok (.iastore, 1) := by decide +kernel
theorem dX6_build_58 : decode cX6_build 58 = .ok (.aload_n 0, 1) := by decide +kernel
theorem dX6_build_59 : decode cX6_build 59 = .ok (.getfield 7, 3) := by decide +kernel
theorem dX6_build_62 : decode cX6_build 62 = .ok (.bipush 25, 2) := by decide +kernel
theorem dX6_build_64 : decode cX6_build 64 = .ok (.dup2, 1) := by decide +kernel
theorem dX6_build_65 : decode cX6_build 65 = .ok (.iaload, 1) := by decide +kernel
theorem dX6_build_66 : decode cX6_build 66 = .ok (.iconst 1, 1) := by decide +kernel
theorem dX6_build_67 : decode cX6_build 67 = .ok (.iadd, 1) := by decide +kernel
theorem dX6_build_68 : decode cX6_build 68 = .ok (.iastore, 1) := by decide +kernel
theorem dX6_build_69 : decode cX6_build 69 = .ok (.aload_n 0, 1) := by decide +kernel
theorem dX6_build_70 : decode cX6_build 70 = .ok (.getfield 7, 3) := by decide +kernel
theorem dX6_build_73 : decode cX6_build 73 = .ok (.bipush 25, 2) := by decide +kernel
theorem dX6_build_75 : decode cX6_build 75 = .ok (.iaload, 1) := by decide +kernel
theorem dX6_build_76 : decode cX6_build 76 = .ok (.ireturn, 1) := by decide +kernel
theorem dX6_plan_0 : decode cX6_plan 0 = .ok (.aload_n 0, 1) := by decide +kernel
theorem dX6_plan_1 : decode cX6_plan 1 = .ok (.iload_n 1, 1) := by decide +kernel
theorem dX6_plan_2 : decode cX6_plan 2 = .ok (.invokevirtual 185, 3) := by decide +kernel
theorem dX6_plan_5 : decode cX6_plan 5 = .ok (.ifCond .eq 11, 3) := by decide +kernel
theorem dX6_plan_8 : decode cX6_plan 8 = .ok (.aload_n 0, 1) := by decide +kernel
theorem dX6_plan_9 : decode cX6_plan 9 = .ok (.iload_n 2, 1) := by decide +kernel
theorem dX6_plan_10 : decode cX6_plan 10 = .ok (.invokevirtual 192, 3) := by decide +kernel
theorem dX6_plan_13 : decode cX6_plan 13 = .ok (.ifCond .ne 5, 3) := by decide +kernel
theorem dX6_plan_16 : decode cX6_plan 16 = .ok (.iconst (-1), 1) := by decide +kernel
theorem dX6_plan_17 : decode cX6_plan 17 = .ok (.ireturn, 1) := by decide +kernel
theorem dX6_plan_18 : decode cX6_plan 18 = .ok (.aload_n 0, 1) := by decide +kernel
theorem dX6_plan_19 : decode cX6_plan 19 = .ok (.getfield 7, 3) := by decide +kernel
theorem dX6_plan_22 : decode cX6_plan 22 = .ok (.bipush 52, 2) := by decide +kernel
theorem dX6_plan_24 : decode cX6_plan 24 = .ok (.iaload, 1) := by decide +kernel
theorem dX6_plan_25 : decode cX6_plan 25 = .ok (.bipush 6, 2) := by decide +kernel
theorem dX6_plan_27 : decode cX6_plan 27 = .ok (.if_icmp .ne 6, 3) := by decide +kernel
theorem dX6_plan_30 : decode cX6_plan 30 = .ok (.bipush (-3), 2) := by decide +kernel
theorem dX6_plan_32 : decode cX6_plan 32 = .ok (.ireturn, 1) := by decide +kernel
theorem dX6_plan_33 : decode cX6_plan 33 = .ok (.aload_n 0, 1) := by decide +kernel
theorem dX6_plan_34 : decode cX6_plan 34 = .ok (.getfield 7, 3) := by decide +kernel
theorem dX6_plan_37 : decode cX6_plan 37 = .ok (.bipush 53, 2) := by decide +kernel
theorem dX6_plan_39 : decode cX6_plan 39 = .ok (.aload_n 0, 1) := by decide +kernel
theorem dX6_plan_40 : decode cX6_plan 40 = .ok (.getfield 7, 3) := by decide +kernel
theorem dX6_plan_43 : decode cX6_plan 43 = .ok (.bipush 52, 2) := by decide +kernel
theorem dX6_plan_45 : decode cX6_plan 45 = .ok (.iaload, 1) := by decide +kernel
theorem dX6_plan_46 : decode cX6_plan 46 = .ok (.iadd, 1) := by decide +kernel
theorem dX6_plan_47 : decode cX6_plan 47 = .ok (.iload_n 1, 1) := by decide +kernel
theorem dX6_plan_48 : decode cX6_plan 48 = .ok (.iastore, 1) := by decide +kernel
theorem dX6_plan_49 : decode cX6_plan 49 = .ok (.aload_n 0, 1) := by decide +kernel
theorem dX6_plan_50 : decode cX6_plan 50 = .ok (.getfield 7, 3) := by decide +kernel
theorem dX6_plan_53 : decode cX6_plan 53 = .ok (.bipush 59, 2) := by decide +kernel
theorem dX6_plan_55 : decode cX6_plan 55 = .ok (.aload_n 0, 1) := by decide +kernel
theorem dX6_plan_56 : decode cX6_plan 56 = .ok (.getfield 7, 3) := by decide +kernel
theorem dX6_plan_59 : decode cX6_plan 59 = .ok (.bipush 52, 2) := by decide +kernel
theorem dX6_plan_61 : decode cX6_plan 61 = .ok (.iaload, 1) := by decide +kernel
theorem dX6_plan_62 : decode cX6_plan 62 = .ok (.iadd, 1) := by decide +kernel
theorem dX6_plan_63 : decode cX6_plan 63 = .ok (.iload_n 2, 1) := by decide +kernel
theorem dX6_plan_64 : decode cX6_plan 64 = .ok (.iastore, 1) := by decide +kernel
theorem dX6_plan_65 : decode cX6_plan 65 = .ok (.aload_n 0, 1) := by decide +kernel
theorem dX6_plan_66 : decode cX6_plan 66 = .ok (.getfield 7, 3) := by decide +kernel
theorem dX6_plan_69 : decode cX6_plan 69 = .ok (.bipush 52, 2) := by decide +kernel
theorem dX6_plan_71 : decode cX6_plan 71 = .ok (.dup2, 1) := by decide +kernel
theorem dX6_plan_72 : decode cX6_plan 72 = .ok (.iaload, 1) := by decide +kernel
theorem dX6_plan_73 : decode cX6_plan 73 = .ok (.iconst 1, 1) := by decide +kernel
theorem dX6_plan_74 : decode cX6_plan 74 = .ok (.iadd, 1) := by decide +kernel
theorem dX6_plan_75 : decode cX6_plan 75 = .ok (.iastore, 1) := by decide +kernel
theorem dX6_plan_76 : decode cX6_plan 76 = .ok (.aload_n 0, 1) := by decide +kernel
theorem dX6_plan_77 : decode cX6_plan 77 = .ok (.getfield 7, 3) := by decide +kernel
theorem dX6_plan_80 : decode cX6_plan 80 = .ok (.bipush 52, 2) := by decide +kernel
theorem dX6_plan_82 : decode cX6_plan 82 = .ok (.iaload, 1) := by decide +kernel
theorem dX6_plan_83 : decode cX6_plan 83 = .ok (.ireturn, 1) := by decide +kernel
theorem dX6_cut_0 : decode cX6_cut 0 = .ok (.aload_n 0, 1) := by decide +kernel
theorem dX6_cut_1 : decode cX6_cut 1 = .ok (.iload_n 1, 1) := by decide +kernel
theorem dX6_cut_2 : decode cX6_cut 2 = .ok (.i2l, 1) := by decide +kernel
theorem dX6_cut_3 : decode cX6_cut 3 = .ok (.lconst 0, 1) := by decide +kernel
theorem dX6_cut_4 : decode cX6_cut 4 = .ok (.aload_n 0, 1) := by decide +kernel
theorem dX6_cut_5 : decode cX6_cut 5 = .ok (.getfield 7, 3) := by decide +kernel
theorem dX6_cut_8 : decode cX6_cut 8 = .ok (.bipush 52, 2) := by decide +kernel
theorem dX6_cut_10 : decode cX6_cut 10 = .ok (.iaload, 1) := by decide +kernel
theorem dX6_cut_11 : decode cX6_cut 11 = .ok (.i2l, 1) := by decide +kernel
theorem dX6_cut_12 : decode cX6_cut 12 = .ok (.invokestatic 49, 3) := by decide +kernel
theorem dX6_cut_15 : decode cX6_cut 15 = .ok (.bipush 52, 2) := by decide +kernel
theorem dX6_cut_17 : decode cX6_cut 17 = .ok (.iload_n 1, 1) := by decide +kernel
theorem dX6_cut_18 : decode cX6_cut 18 = .ok (.invokevirtual 202, 3) := by decide +kernel
theorem dX6_cut_21 : decode cX6_cut 21 = .ok (.ireturn, 1) := by decide +kernel
theorem dX6_hangsOn_0 : decode cX6_hangsOn 0 = .ok (.aload_n 0, 1) := by decide +kernel
theorem dX6_hangsOn_1 : decode cX6_hangsOn 1 = .ok (.iload_n 1, 1) := by decide +kernel
theorem dX6_hangsOn_2 : decode cX6_hangsOn 2 = .ok (.iload_n 2, 1) := by decide +kernel
theorem dX6_hangsOn_3 : decode cX6_hangsOn 3 = .ok (.invokevirtual 175, 3) := by decide +kernel
theorem dX6_hangsOn_6 : decode cX6_hangsOn 6 = .ok (.ifCond .eq 18, 3) := by decide +kernel
theorem dX6_hangsOn_9 : decode cX6_hangsOn 9 = .ok (.aload_n 0, 1) := by decide +kernel
theorem dX6_hangsOn_10 : decode cX6_hangsOn 10 = .ok (.iload_n 1, 1) := by decide +kernel
theorem dX6_hangsOn_11 : decode cX6_hangsOn 11 = .ok (.iload_n 3, 1) := by decide +kernel
theorem dX6_hangsOn_12 : decode cX6_hangsOn 12 = .ok (.invokevirtual 152, 3) := by decide +kernel
theorem dX6_hangsOn_15 : decode cX6_hangsOn 15 = .ok (.bipush (-4), 2) := by decide +kernel
theorem dX6_hangsOn_17 : decode cX6_hangsOn 17 = .ok (.if_icmp .ne 7, 3) := by decide +kernel
theorem dX6_hangsOn_20 : decode cX6_hangsOn 20 = .ok (.iconst 1, 1) := by decide +kernel
theorem dX6_hangsOn_21 : decode cX6_hangsOn 21 = .ok (.goto 4, 3) := by decide +kernel
theorem dX6_hangsOn_24 : decode cX6_hangsOn 24 = .ok (.iconst 0, 1) := by decide +kernel
theorem dX6_hangsOn_25 : decode cX6_hangsOn 25 = .ok (.istore 4, 2) := by decide +kernel
theorem dX6_hangsOn_27 : decode cX6_hangsOn 27 = .ok (.iload 4, 2) := by decide +kernel
theorem dX6_hangsOn_29 : decode cX6_hangsOn 29 = .ok (.ifCond .eq 17, 3) := by decide +kernel
theorem dX6_hangsOn_32 : decode cX6_hangsOn 32 = .ok (.aload_n 0, 1) := by decide +kernel
theorem dX6_hangsOn_33 : decode cX6_hangsOn 33 = .ok (.getfield 7, 3) := by decide +kernel
theorem dX6_hangsOn_36 : decode cX6_hangsOn 36 = .ok (.iload_n 1, 1) := by decide +kernel
theorem dX6_hangsOn_37 : decode cX6_hangsOn 37 = .ok (.bipush 15, 2) := by decide +kernel
theorem dX6_hangsOn_39 : decode cX6_hangsOn 39 = .ok (.iadd, 1) := by decide +kernel
theorem dX6_hangsOn_40 : decode cX6_hangsOn 40 = .ok (.iload_n 2, 1) := by decide +kernel
theorem dX6_hangsOn_41 : decode cX6_hangsOn 41 = .ok (.iadd, 1) := by decide +kernel
theorem dX6_hangsOn_42 : decode cX6_hangsOn 42 = .ok (.iload_n 3, 1) := by decide +kernel
theorem dX6_hangsOn_43 : decode cX6_hangsOn 43 = .ok (.iconst 1, 1) := by decide +kernel
theorem dX6_hangsOn_44 : decode cX6_hangsOn 44 = .ok (.iadd, 1) := by decide +kernel
theorem dX6_hangsOn_45 : decode cX6_hangsOn 45 = .ok (.iastore, 1) := by decide +kernel
theorem dX6_hangsOn_46 : decode cX6_hangsOn 46 = .ok (.iload 4, 2) := by decide +kernel
theorem dX6_hangsOn_48 : decode cX6_hangsOn 48 = .ok (.ireturn, 1) := by decide +kernel
theorem dX6_hangs_0 : decode cX6_hangs 0 = .ok (.aload_n 0, 1) := by decide +kernel
theorem dX6_hangs_1 : decode cX6_hangs 1 = .ok (.iload_n 1, 1) := by decide +kernel
theorem dX6_hangs_2 : decode cX6_hangs 2 = .ok (.invokevirtual 185, 3) := by decide +kernel
theorem dX6_hangs_5 : decode cX6_hangs 5 = .ok (.ifCond .eq 11, 3) := by decide +kernel
theorem dX6_hangs_8 : decode cX6_hangs 8 = .ok (.aload_n 0, 1) := by decide +kernel
theorem dX6_hangs_9 : decode cX6_hangs 9 = .ok (.iload_n 2, 1) := by decide +kernel
theorem dX6_hangs_10 : decode cX6_hangs 10 = .ok (.invokevirtual 192, 3) := by decide +kernel
theorem dX6_hangs_13 : decode cX6_hangs 13 = .ok (.ifCond .ne 5, 3) := by decide +kernel
theorem dX6_hangs_16 : decode cX6_hangs 16 = .ok (.iconst (-1), 1) := by decide +kernel
theorem dX6_hangs_17 : decode cX6_hangs 17 = .ok (.ireturn, 1) := by decide +kernel
theorem dX6_hangs_18 : decode cX6_hangs 18 = .ok (.aload_n 0, 1) := by decide +kernel
theorem dX6_hangs_19 : decode cX6_hangs 19 = .ok (.iconst 0, 1) := by decide +kernel
theorem dX6_hangs_20 : decode cX6_hangs 20 = .ok (.iload_n 1, 1) := by decide +kernel
theorem dX6_hangs_21 : decode cX6_hangs 21 = .ok (.iload_n 2, 1) := by decide +kernel
theorem dX6_hangs_22 : decode cX6_hangs 22 = .ok (.invokevirtual 208, 3) := by decide +kernel
theorem dX6_hangs_25 : decode cX6_hangs 25 = .ok (.ifCond .eq 12, 3) := by decide +kernel
theorem dX6_hangs_28 : decode cX6_hangs 28 = .ok (.aload_n 0, 1) := by decide +kernel
theorem dX6_hangs_29 : decode cX6_hangs 29 = .ok (.iconst 0, 1) := by decide +kernel
theorem dX6_hangs_30 : decode cX6_hangs 30 = .ok (.iload_n 1, 1) := by decide +kernel
theorem dX6_hangs_31 : decode cX6_hangs 31 = .ok (.invokevirtual 169, 3) := by decide +kernel
theorem dX6_hangs_34 : decode cX6_hangs 34 = .ok (.goto 5, 3) := by decide +kernel
theorem dX6_hangs_37 : decode cX6_hangs 37 = .ok (.bipush (-2), 2) := by decide +kernel
theorem dX6_hangs_39 : decode cX6_hangs 39 = .ok (.ireturn, 1) := by decide +kernel
theorem dX6_hang_0 : decode cX6_hang 0 = .ok (.aload_n 0, 1) := by decide +kernel
theorem dX6_hang_1 : decode cX6_hang 1 = .ok (.iload_n 1, 1) := by decide +kernel
theorem dX6_hang_2 : decode cX6_hang 2 = .ok (.iload_n 2, 1) := by decide +kernel
theorem dX6_hang_3 : decode cX6_hang 3 = .ok (.invokevirtual 211, 3) := by decide +kernel
theorem dX6_hang_6 : decode cX6_hang 6 = .ok (.ireturn, 1) := by decide +kernel
theorem dX6_fillsOn_0 : decode cX6_fillsOn 0 = .ok (.aload_n 0, 1) := by decide +kernel
theorem dX6_fillsOn_1 : decode cX6_fillsOn 1 = .ok (.iload_n 1, 1) := by decide +kernel
theorem dX6_fillsOn_2 : decode cX6_fillsOn 2 = .ok (.iload_n 2, 1) := by decide +kernel
theorem dX6_fillsOn_3 : decode cX6_fillsOn 3 = .ok (.invokevirtual 152, 3) := by decide +kernel
theorem dX6_fillsOn_6 : decode cX6_fillsOn 6 = .ok (.istore_n 3, 1) := by decide +kernel
theorem dX6_fillsOn_7 : decode cX6_fillsOn 7 = .ok (.iload_n 3, 1) := by decide +kernel
theorem dX6_fillsOn_8 : decode cX6_fillsOn 8 = .ok (.bipush (-4), 2) := by decide +kernel
theorem dX6_fillsOn_10 : decode cX6_fillsOn 10 = .ok (.if_icmp .eq 27, 3) := by decide +kernel
theorem dX6_fillsOn_13 : decode cX6_fillsOn 13 = .ok (.aload_n 0, 1) := by decide +kernel
theorem dX6_fillsOn_14 : decode cX6_fillsOn 14 = .ok (.getfield 7, 3) := by decide +kernel
theorem dX6_fillsOn_17 : decode cX6_fillsOn 17 = .ok (.iload_n 1, 1) := by decide +kernel
theorem dX6_fillsOn_18 : decode cX6_fillsOn 18 = .ok (.bipush 15, 2) := by decide +kernel
theorem dX6_fillsOn_20 : decode cX6_fillsOn 20 = .ok (.iadd, 1) := by decide +kernel
theorem dX6_fillsOn_21 : decode cX6_fillsOn 21 = .ok (.iload_n 3, 1) := by decide +kernel
theorem dX6_fillsOn_22 : decode cX6_fillsOn 22 = .ok (.iadd, 1) := by decide +kernel
theorem dX6_fillsOn_23 : decode cX6_fillsOn 23 = .ok (.iconst 0, 1) := by decide +kernel
theorem dX6_fillsOn_24 : decode cX6_fillsOn 24 = .ok (.iastore, 1) := by decide +kernel
theorem dX6_fillsOn_25 : decode cX6_fillsOn 25 = .ok (.aload_n 0, 1) := by decide +kernel
theorem dX6_fillsOn_26 : decode cX6_fillsOn 26 = .ok (.getfield 7, 3) := by decide +kernel
theorem dX6_fillsOn_29 : decode cX6_fillsOn 29 = .ok (.iload_n 1, 1) := by decide +kernel
theorem dX6_fillsOn_30 : decode cX6_fillsOn 30 = .ok (.bipush 20, 2) := by decide +kernel
theorem dX6_fillsOn_32 : decode cX6_fillsOn 32 = .ok (.iadd, 1) := by decide +kernel
theorem dX6_fillsOn_33 : decode cX6_fillsOn 33 = .ok (.iload_n 3, 1) := by decide +kernel
theorem dX6_fillsOn_34 : decode cX6_fillsOn 34 = .ok (.iadd, 1) := by decide +kernel
theorem dX6_fillsOn_35 : decode cX6_fillsOn 35 = .ok (.iconst 1, 1) := by decide +kernel
theorem dX6_fillsOn_36 : decode cX6_fillsOn 36 = .ok (.iastore, 1) := by decide +kernel
theorem dX6_fillsOn_37 : decode cX6_fillsOn 37 = .ok (.iload_n 3, 1) := by decide +kernel
theorem dX6_fillsOn_38 : decode cX6_fillsOn 38 = .ok (.ireturn, 1) := by decide +kernel
theorem dX6_fill_0 : decode cX6_fill 0 = .ok (.aload_n 0, 1) := by decide +kernel
theorem dX6_fill_1 : decode cX6_fill 1 = .ok (.iload_n 1, 1) := by decide +kernel
theorem dX6_fill_2 : decode cX6_fill 2 = .ok (.invokevirtual 192, 3) := by decide +kernel
theorem dX6_fill_5 : decode cX6_fill 5 = .ok (.ifCond .ne 5, 3) := by decide +kernel
theorem dX6_fill_8 : decode cX6_fill 8 = .ok (.iconst (-1), 1) := by decide +kernel
theorem dX6_fill_9 : decode cX6_fill 9 = .ok (.ireturn, 1) := by decide +kernel
theorem dX6_fill_10 : decode cX6_fill 10 = .ok (.aload_n 0, 1) := by decide +kernel
theorem dX6_fill_11 : decode cX6_fill 11 = .ok (.iconst 0, 1) := by decide +kernel
theorem dX6_fill_12 : decode cX6_fill 12 = .ok (.iload_n 1, 1) := by decide +kernel
theorem dX6_fill_13 : decode cX6_fill 13 = .ok (.invokevirtual 214, 3) := by decide +kernel
theorem dX6_fill_16 : decode cX6_fill 16 = .ok (.istore_n 2, 1) := by decide +kernel
theorem dX6_fill_17 : decode cX6_fill 17 = .ok (.iload_n 2, 1) := by decide +kernel
theorem dX6_fill_18 : decode cX6_fill 18 = .ok (.bipush (-4), 2) := by decide +kernel
theorem dX6_fill_20 : decode cX6_fill 20 = .ok (.if_icmp .ne 8, 3) := by decide +kernel
theorem dX6_fill_23 : decode cX6_fill 23 = .ok (.bipush (-2), 2) := by decide +kernel
theorem dX6_fill_25 : decode cX6_fill 25 = .ok (.goto 4, 3) := by decide +kernel
theorem dX6_fill_28 : decode cX6_fill 28 = .ok (.iload_n 2, 1) := by decide +kernel
theorem dX6_fill_29 : decode cX6_fill 29 = .ok (.ireturn, 1) := by decide +kernel
theorem dX6_stepsOn_0 : decode cX6_stepsOn 0 = .ok (.aload_n 0, 1) := by decide +kernel
theorem dX6_stepsOn_1 : decode cX6_stepsOn 1 = .ok (.iload_n 1, 1) := by decide +kernel
theorem dX6_stepsOn_2 : decode cX6_stepsOn 2 = .ok (.iload_n 2, 1) := by decide +kernel
theorem dX6_stepsOn_3 : decode cX6_stepsOn 3 = .ok (.invokevirtual 169, 3) := by decide +kernel
theorem dX6_stepsOn_6 : decode cX6_stepsOn 6 = .ok (.pop, 1) := by decide +kernel
theorem dX6_stepsOn_7 : decode cX6_stepsOn 7 = .ok (.aload_n 0, 1) := by decide +kernel
theorem dX6_stepsOn_8 : decode cX6_stepsOn 8 = .ok (.getfield 25, 3) := by decide +kernel
theorem dX6_stepsOn_11 : decode cX6_stepsOn 11 = .ok (.iload_n 3, 1) := by decide +kernel
theorem dX6_stepsOn_12 : decode cX6_stepsOn 12 = .ok (.iaload, 1) := by decide +kernel
theorem dX6_stepsOn_13 : decode cX6_stepsOn 13 = .ok (.ireturn, 1) := by decide +kernel
theorem dX6_steps_0 : decode cX6_steps 0 = .ok (.aload_n 0, 1) := by decide +kernel
theorem dX6_steps_1 : decode cX6_steps 1 = .ok (.iload_n 1, 1) := by decide +kernel
theorem dX6_steps_2 : decode cX6_steps 2 = .ok (.invokevirtual 185, 3) := by decide +kernel
theorem dX6_steps_5 : decode cX6_steps 5 = .ok (.ifCond .eq 20, 3) := by decide +kernel
theorem dX6_steps_8 : decode cX6_steps 8 = .ok (.iload_n 2, 1) := by decide +kernel
theorem dX6_steps_9 : decode cX6_steps 9 = .ok (.invokestatic 197, 3) := by decide +kernel
theorem dX6_steps_12 : decode cX6_steps 12 = .ok (.ifCond .eq 13, 3) := by decide +kernel
theorem dX6_steps_15 : decode cX6_steps 15 = .ok (.aload_n 0, 1) := by decide +kernel
theorem dX6_steps_16 : decode cX6_steps 16 = .ok (.iconst 0, 1) := by decide +kernel
theorem dX6_steps_17 : decode cX6_steps 17 = .ok (.iload_n 1, 1) := by decide +kernel
theorem dX6_steps_18 : decode cX6_steps 18 = .ok (.iload_n 2, 1) := by decide +kernel
theorem dX6_steps_19 : decode cX6_steps 19 = .ok (.invokevirtual 217, 3) := by decide +kernel
theorem dX6_steps_22 : decode cX6_steps 22 = .ok (.goto 4, 3) := by decide +kernel
theorem dX6_steps_25 : decode cX6_steps 25 = .ok (.iconst (-1), 1) := by decide +kernel
theorem dX6_steps_26 : decode cX6_steps 26 = .ok (.ireturn, 1) := by decide +kernel
theorem dX6_way_0 : decode cX6_way 0 = .ok (.aload_n 0, 1) := by decide +kernel
theorem dX6_way_1 : decode cX6_way 1 = .ok (.iload_n 1, 1) := by decide +kernel
theorem dX6_way_2 : decode cX6_way 2 = .ok (.invokevirtual 185, 3) := by decide +kernel
theorem dX6_way_5 : decode cX6_way 5 = .ok (.ifCond .eq 22, 3) := by decide +kernel
theorem dX6_way_8 : decode cX6_way 8 = .ok (.iload_n 2, 1) := by decide +kernel
theorem dX6_way_9 : decode cX6_way 9 = .ok (.invokestatic 197, 3) := by decide +kernel
theorem dX6_way_12 : decode cX6_way 12 = .ok (.ifCond .eq 15, 3) := by decide +kernel
theorem dX6_way_15 : decode cX6_way 15 = .ok (.iload_n 3, 1) := by decide +kernel
theorem dX6_way_16 : decode cX6_way 16 = .ok (.i2l, 1) := by decide +kernel
theorem dX6_way_17 : decode cX6_way 17 = .ok (.lconst 0, 1) := by decide +kernel
theorem dX6_way_18 : decode cX6_way 18 = .ok (.ldc2_w 129, 3) := by decide +kernel
theorem dX6_way_21 : decode cX6_way 21 = .ok (.invokestatic 49, 3) := by decide +kernel
theorem dX6_way_24 : decode cX6_way 24 = .ok (.ifCond .ne 5, 3) := by decide +kernel
theorem dX6_way_27 : decode cX6_way 27 = .ok (.iconst (-1), 1) := by decide +kernel
theorem dX6_way_28 : decode cX6_way 28 = .ok (.ireturn, 1) := by decide +kernel
theorem dX6_way_29 : decode cX6_way 29 = .ok (.aload_n 0, 1) := by decide +kernel
theorem dX6_way_30 : decode cX6_way 30 = .ok (.iconst 0, 1) := by decide +kernel
theorem dX6_way_31 : decode cX6_way 31 = .ok (.iload_n 1, 1) := by decide +kernel
theorem dX6_way_32 : decode cX6_way 32 = .ok (.iload_n 2, 1) := by decide +kernel
theorem dX6_way_33 : decode cX6_way 33 = .ok (.invokevirtual 166, 3) := by decide +kernel
theorem dX6_way_36 : decode cX6_way 36 = .ok (.pop, 1) := by decide +kernel
theorem dX6_way_37 : decode cX6_way 37 = .ok (.aload_n 0, 1) := by decide +kernel
theorem dX6_way_38 : decode cX6_way 38 = .ok (.getfield 7, 3) := by decide +kernel
theorem dX6_way_41 : decode cX6_way 41 = .ok (.bipush 10, 2) := by decide +kernel
theorem dX6_way_43 : decode cX6_way 43 = .ok (.iload_n 1, 1) := by decide +kernel
theorem dX6_way_44 : decode cX6_way 44 = .ok (.iadd, 1) := by decide +kernel
theorem dX6_way_45 : decode cX6_way 45 = .ok (.iaload, 1) := by decide +kernel
theorem dX6_way_46 : decode cX6_way 46 = .ok (.istore 4, 2) := by decide +kernel
theorem dX6_way_48 : decode cX6_way 48 = .ok (.bipush (-4), 2) := by decide +kernel
theorem dX6_way_50 : decode cX6_way 50 = .ok (.istore 5, 2) := by decide +kernel
theorem dX6_way_52 : decode cX6_way 52 = .ok (.aload_n 0, 1) := by decide +kernel
theorem dX6_way_53 : decode cX6_way 53 = .ok (.getfield 25, 3) := by decide +kernel
theorem dX6_way_56 : decode cX6_way 56 = .ok (.iload 4, 2) := by decide +kernel
theorem dX6_way_58 : decode cX6_way 58 = .ok (.iaload, 1) := by decide +kernel
theorem dX6_way_59 : decode cX6_way 59 = .ok (.bipush (-4), 2) := by decide +kernel
theorem dX6_way_61 : decode cX6_way 61 = .ok (.if_icmp .eq 14, 3) := by decide +kernel
theorem dX6_way_64 : decode cX6_way 64 = .ok (.iload_n 3, 1) := by decide +kernel
theorem dX6_way_65 : decode cX6_way 65 = .ok (.aload_n 0, 1) := by decide +kernel
theorem dX6_way_66 : decode cX6_way 66 = .ok (.getfield 25, 3) := by decide +kernel
theorem dX6_way_69 : decode cX6_way 69 = .ok (.iload 4, 2) := by decide +kernel
theorem dX6_way_71 : decode cX6_way 71 = .ok (.iaload, 1) := by decide +kernel
theorem dX6_way_72 : decode cX6_way 72 = .ok (.if_icmp .lt 6, 3) := by decide +kernel
theorem dX6_way_75 : decode cX6_way 75 = .ok (.bipush (-4), 2) := by decide +kernel
theorem dX6_way_77 : decode cX6_way 77 = .ok (.ireturn, 1) := by decide +kernel
theorem dX6_way_78 : decode cX6_way 78 = .ok (.iconst 0, 1) := by decide +kernel
theorem dX6_way_79 : decode cX6_way 79 = .ok (.istore 6, 2) := by decide +kernel
theorem dX6_way_81 : decode cX6_way 81 = .ok (.iload 6, 2) := by decide +kernel
theorem dX6_way_83 : decode cX6_way 83 = .ok (.iload_n 3, 1) := by decide +kernel
theorem dX6_way_84 : decode cX6_way 84 = .ok (.if_icmp .gt 140, 3) := by decide +kernel
theorem dX6_way_87 : decode cX6_way 87 = .ok (.aload_n 0, 1) := by decide +kernel
theorem dX6_way_88 : decode cX6_way 88 = .ok (.getfield 25, 3) := by decide +kernel
theorem dX6_way_91 : decode cX6_way 91 = .ok (.iload 4, 2) := by decide +kernel
theorem dX6_way_93 : decode cX6_way 93 = .ok (.iaload, 1) := by decide +kernel
theorem dX6_way_94 : decode cX6_way 94 = .ok (.istore 7, 2) := by decide +kernel
theorem dX6_way_96 : decode cX6_way 96 = .ok (.bipush (-4), 2) := by decide +kernel
theorem dX6_way_98 : decode cX6_way 98 = .ok (.istore 8, 2) := by decide +kernel
theorem dX6_way_100 : decode cX6_way 100 = .ok (.aload_n 0, 1) := by decide +kernel
theorem dX6_way_101 : decode cX6_way 101 = .ok (.getfield 7, 3) := by decide +kernel
theorem dX6_way_104 : decode cX6_way 104 = .ok (.bipush 25, 2) := by decide +kernel
theorem dX6_way_106 : decode cX6_way 106 = .ok (.iaload, 1) := by decide +kernel
theorem dX6_way_107 : decode cX6_way 107 = .ok (.iconst 1, 1) := by decide +kernel
theorem dX6_way_108 : decode cX6_way 108 = .ok (.isub, 1) := by decide +kernel
theorem dX6_way_109 : decode cX6_way 109 = .ok (.istore 9, 2) := by decide +kernel
theorem dX6_way_111 : decode cX6_way 111 = .ok (.iload 9, 2) := by decide +kernel
theorem dX6_way_113 : decode cX6_way 113 = .ok (.ifCond .lt 101, 3) := by decide +kernel
theorem dX6_way_116 : decode cX6_way 116 = .ok (.aload_n 0, 1) := by decide +kernel
theorem dX6_way_117 : decode cX6_way 117 = .ok (.getfield 7, 3) := by decide +kernel
theorem dX6_way_120 : decode cX6_way 120 = .ok (.bipush 26, 2) := by decide +kernel
theorem dX6_way_122 : decode cX6_way 122 = .ok (.iload 9, 2) := by decide +kernel
theorem dX6_way_124 : decode cX6_way 124 = .ok (.iadd, 1) := by decide +kernel
theorem dX6_way_125 : decode cX6_way 125 = .ok (.iaload, 1) := by decide +kernel
theorem dX6_way_126 : decode cX6_way 126 = .ok (.istore 10, 2) := by decide +kernel
theorem dX6_way_128 : decode cX6_way 128 = .ok (.aload_n 0, 1) := by decide +kernel
theorem dX6_way_129 : decode cX6_way 129 = .ok (.getfield 7, 3) := by decide +kernel
theorem dX6_way_132 : decode cX6_way 132 = .ok (.bipush 35, 2) := by decide +kernel
theorem dX6_way_134 : decode cX6_way 134 = .ok (.iload 9, 2) := by decide +kernel
theorem dX6_way_136 : decode cX6_way 136 = .ok (.iadd, 1) := by decide +kernel
theorem dX6_way_137 : decode cX6_way 137 = .ok (.iaload, 1) := by decide +kernel
theorem dX6_way_138 : decode cX6_way 138 = .ok (.istore 11, 2) := by decide +kernel
theorem dX6_way_140 : decode cX6_way 140 = .ok (.iload 10, 2) := by decide +kernel
theorem dX6_way_142 : decode cX6_way 142 = .ok (.iload 4, 2) := by decide +kernel
theorem dX6_way_144 : decode cX6_way 144 = .ok (.if_icmp .ne 8, 3) := by decide +kernel
theorem dX6_way_147 : decode cX6_way 147 = .ok (.iload 11, 2) := by decide +kernel
theorem dX6_way_149 : decode cX6_way 149 = .ok (.goto 17, 3) := by decide +kernel
theorem dX6_way_152 : decode cX6_way 152 = .ok (.iload 11, 2) := by decide +kernel
theorem dX6_way_154 : decode cX6_way 154 = .ok (.iload 4, 2) := by decide +kernel
theorem dX6_way_156 : decode cX6_way 156 = .ok (.if_icmp .ne 8, 3) := by decide +kernel
theorem dX6_way_159 : decode cX6_way 159 = .ok (.iload 10, 2) := by decide +kernel
theorem dX6_way_161 : decode cX6_way 161 = .ok (.goto 5, 3) := by decide +kernel
theorem dX6_way_164 : decode cX6_way 164 = .ok (.bipush (-4), 2) := by decide +kernel
theorem dX6_way_166 : decode cX6_way 166 = .ok (.istore 12, 2) := by decide +kernel
theorem dX6_way_168 : decode cX6_way 168 = .ok (.iload 12, 2) := by decide +kernel
theorem dX6_way_170 : decode cX6_way 170 = .ok (.bipush (-4), 2) := by decide +kernel
theorem dX6_way_172 : decode cX6_way 172 = .ok (.if_icmp .eq 36, 3) := by decide +kernel
theorem dX6_way_175 : decode cX6_way 175 = .ok (.aload_n 0, 1) := by decide +kernel
theorem dX6_way_176 : decode cX6_way 176 = .ok (.iconst 0, 1) := by decide +kernel
theorem dX6_way_177 : decode cX6_way 177 = .ok (.iload 9, 2) := by decide +kernel
theorem dX6_way_179 : decode cX6_way 179 = .ok (.iload_n 1, 1) := by decide +kernel
theorem dX6_way_180 : decode cX6_way 180 = .ok (.invokevirtual 163, 3) := by decide +kernel
theorem dX6_way_183 : decode cX6_way 183 = .ok (.ifCond .eq 25, 3) := by decide +kernel
theorem dX6_way_186 : decode cX6_way 186 = .ok (.aload_n 0, 1) := by decide +kernel
theorem dX6_way_187 : decode cX6_way 187 = .ok (.getfield 25, 3) := by decide +kernel
theorem dX6_way_190 : decode cX6_way 190 = .ok (.iload 12, 2) := by decide +kernel
theorem dX6_way_192 : decode cX6_way 192 = .ok (.iaload, 1) := by decide +kernel
theorem dX6_way_193 : decode cX6_way 193 = .ok (.iload 7, 2) := by decide +kernel
theorem dX6_way_195 : decode cX6_way 195 = .ok (.iconst 1, 1) := by decide +kernel
theorem dX6_way_196 : decode cX6_way 196 = .ok (.isub, 1) := by decide +kernel
theorem dX6_way_197 : decode cX6_way 197 = .ok (.if_icmp .ne 11, 3) := by decide +kernel
theorem dX6_way_200 : decode cX6_way 200 = .ok (.iload 9, 2) := by decide +kernel
theorem dX6_way_202 : decode cX6_way 202 = .ok (.istore 5, 2) := by decide +kernel
theorem dX6_way_204 : decode cX6_way 204 = .ok (.iload 12, 2) := by decide +kernel
theorem dX6_way_206 : decode cX6_way 206 = .ok (.istore 8, 2) := by decide +kernel
theorem dX6_way_208 : decode cX6_way 208 = .ok (.iinc 9 (-1), 3) := by decide +kernel
theorem dX6_way_211 : decode cX6_way 211 = .ok (.goto (-100), 3) := by decide +kernel
theorem dX6_way_214 : decode cX6_way 214 = .ok (.iload 8, 2) := by decide +kernel
theorem dX6_way_216 : decode cX6_way 216 = .ok (.istore 4, 2) := by decide +kernel
theorem dX6_way_218 : decode cX6_way 218 = .ok (.iinc 6 1, 3) := by decide +kernel
theorem dX6_way_221 : decode cX6_way 221 = .ok (.goto (-140), 3) := by decide +kernel
theorem dX6_way_224 : decode cX6_way 224 = .ok (.iload 5, 2) := by decide +kernel
theorem dX6_way_226 : decode cX6_way 226 = .ok (.ireturn, 1) := by decide +kernel
theorem dX6_meet_0 : decode cX6_meet 0 = .ok (.aload_n 0, 1) := by decide +kernel
theorem dX6_meet_1 : decode cX6_meet 1 = .ok (.iload_n 1, 1) := by decide +kernel
theorem dX6_meet_2 : decode cX6_meet 2 = .ok (.invokevirtual 185, 3) := by decide +kernel
theorem dX6_meet_5 : decode cX6_meet 5 = .ok (.ifCond .eq 32, 3) := by decide +kernel
theorem dX6_meet_8 : decode cX6_meet 8 = .ok (.aload_n 0, 1) := by decide +kernel
theorem dX6_meet_9 : decode cX6_meet 9 = .ok (.iload_n 2, 1) := by decide +kernel
theorem dX6_meet_10 : decode cX6_meet 10 = .ok (.invokevirtual 185, 3) := by decide +kernel
theorem dX6_meet_13 : decode cX6_meet 13 = .ok (.ifCond .eq 24, 3) := by decide +kernel
theorem dX6_meet_16 : decode cX6_meet 16 = .ok (.iload_n 1, 1) := by decide +kernel
theorem dX6_meet_17 : decode cX6_meet 17 = .ok (.iload_n 2, 1) := by decide +kernel
theorem dX6_meet_18 : decode cX6_meet 18 = .ok (.if_icmp .eq 19, 3) := by decide +kernel
theorem dX6_meet_21 : decode cX6_meet 21 = .ok (.aload_n 0, 1) := by decide +kernel
theorem dX6_meet_22 : decode cX6_meet 22 = .ok (.iconst 0, 1) := by decide +kernel
theorem dX6_meet_23 : decode cX6_meet 23 = .ok (.iload_n 1, 1) := by decide +kernel
theorem dX6_meet_24 : decode cX6_meet 24 = .ok (.invokevirtual 169, 3) := by decide +kernel
theorem dX6_meet_27 : decode cX6_meet 27 = .ok (.aload_n 0, 1) := by decide +kernel
theorem dX6_meet_28 : decode cX6_meet 28 = .ok (.iconst 0, 1) := by decide +kernel
theorem dX6_meet_29 : decode cX6_meet 29 = .ok (.iload_n 2, 1) := by decide +kernel
theorem dX6_meet_30 : decode cX6_meet 30 = .ok (.invokevirtual 169, 3) := by decide +kernel
theorem dX6_meet_33 : decode cX6_meet 33 = .ok (.iand, 1) := by decide +kernel
theorem dX6_meet_34 : decode cX6_meet 34 = .ok (.goto 4, 3) := by decide +kernel
theorem dX6_meet_37 : decode cX6_meet 37 = .ok (.iconst (-1), 1) := by decide +kernel
theorem dX6_meet_38 : decode cX6_meet 38 = .ok (.ireturn, 1) := by decide +kernel
theorem dX6_copies_0 : decode cX6_copies 0 = .ok (.iconst 0, 1) := by decide +kernel
theorem dX6_copies_1 : decode cX6_copies 1 = .ok (.istore_n 3, 1) := by decide +kernel
theorem dX6_copies_2 : decode cX6_copies 2 = .ok (.iload_n 3, 1) := by decide +kernel
theorem dX6_copies_3 : decode cX6_copies 3 = .ok (.bipush 65, 2) := by decide +kernel
theorem dX6_copies_5 : decode cX6_copies 5 = .ok (.if_icmp .ge 25, 3) := by decide +kernel
theorem dX6_copies_8 : decode cX6_copies 8 = .ok (.aload_n 0, 1) := by decide +kernel
theorem dX6_copies_9 : decode cX6_copies 9 = .ok (.getfield 7, 3) := by decide +kernel
theorem dX6_copies_12 : decode cX6_copies 12 = .ok (.iload_n 2, 1) := by decide +kernel
theorem dX6_copies_13 : decode cX6_copies 13 = .ok (.iload_n 3, 1) := by decide +kernel
theorem dX6_copies_14 : decode cX6_copies 14 = .ok (.iadd, 1) := by decide +kernel
theorem dX6_copies_15 : decode cX6_copies 15 = .ok (.aload_n 0, 1) := by decide +kernel
theorem dX6_copies_16 : decode cX6_copies 16 = .ok (.getfield 7, 3) := by decide +kernel
theorem dX6_copies_19 : decode cX6_copies 19 = .ok (.iload_n 1, 1) := by decide +kernel
theorem dX6_copies_20 : decode cX6_copies 20 = .ok (.iload_n 3, 1) := by decide +kernel
theorem dX6_copies_21 : decode cX6_copies 21 = .ok (.iadd, 1) := by decide +kernel
theorem dX6_copies_22 : decode cX6_copies 22 = .ok (.iaload, 1) := by decide +kernel
theorem dX6_copies_23 : decode cX6_copies 23 = .ok (.iastore, 1) := by decide +kernel
theorem dX6_copies_24 : decode cX6_copies 24 = .ok (.iinc 3 1, 3) := by decide +kernel
theorem dX6_copies_27 : decode cX6_copies 27 = .ok (.goto (-25), 3) := by decide +kernel
theorem dX6_copies_30 : decode cX6_copies 30 = .ok (.return_, 1) := by decide +kernel
theorem dX6_planGoes_0 : decode cX6_planGoes 0 = .ok (.aload_n 0, 1) := by decide +kernel
theorem dX6_planGoes_1 : decode cX6_planGoes 1 = .ok (.iconst 0, 1) := by decide +kernel
theorem dX6_planGoes_2 : decode cX6_planGoes 2 = .ok (.sipush 260, 3) := by decide +kernel
theorem dX6_planGoes_5 : decode cX6_planGoes 5 = .ok (.invokevirtual 220, 3) := by decide +kernel
theorem dX6_planGoes_8 : decode cX6_planGoes 8 = .ok (.aload_n 0, 1) := by decide +kernel
theorem dX6_planGoes_9 : decode cX6_planGoes 9 = .ok (.iconst 0, 1) := by decide +kernel
theorem dX6_planGoes_10 : decode cX6_planGoes 10 = .ok (.putfield 224, 3) := by decide +kernel
theorem dX6_planGoes_13 : decode cX6_planGoes 13 = .ok (.aload_n 0, 1) := by decide +kernel
theorem dX6_planGoes_14 : decode cX6_planGoes 14 = .ok (.bipush (-4), 2) := by decide +kernel
theorem dX6_planGoes_16 : decode cX6_planGoes 16 = .ok (.putfield 227, 3) := by decide +kernel
theorem dX6_planGoes_19 : decode cX6_planGoes 19 = .ok (.iconst 0, 1) := by decide +kernel
theorem dX6_planGoes_20 : decode cX6_planGoes 20 = .ok (.istore_n 2, 1) := by decide +kernel
theorem dX6_planGoes_21 : decode cX6_planGoes 21 = .ok (.iload_n 2, 1) := by decide +kernel
theorem dX6_planGoes_22 : decode cX6_planGoes 22 = .ok (.aload_n 0, 1) := by decide +kernel
theorem dX6_planGoes_23 : decode cX6_planGoes 23 = .ok (.getfield 7, 3) := by decide +kernel
theorem dX6_planGoes_26 : decode cX6_planGoes 26 = .ok (.bipush 52, 2) := by decide +kernel
theorem dX6_planGoes_28 : decode cX6_planGoes 28 = .ok (.iaload, 1) := by decide +kernel
theorem dX6_planGoes_29 : decode cX6_planGoes 29 = .ok (.if_icmp .ge 76, 3) := by decide +kernel
theorem dX6_planGoes_32 : decode cX6_planGoes 32 = .ok (.iload_n 2, 1) := by decide +kernel
theorem dX6_planGoes_33 : decode cX6_planGoes 33 = .ok (.iload_n 1, 1) := by decide +kernel
theorem dX6_planGoes_34 : decode cX6_planGoes 34 = .ok (.if_icmp .eq 65, 3) := by decide +kernel
theorem dX6_planGoes_37 : decode cX6_planGoes 37 = .ok (.aload_n 0, 1) := by decide +kernel
theorem dX6_planGoes_38 : decode cX6_planGoes 38 = .ok (.sipush 260, 3) := by decide +kernel
theorem dX6_planGoes_41 : decode cX6_planGoes 41 = .ok (.aload_n 0, 1) := by decide +kernel
theorem dX6_planGoes_42 : decode cX6_planGoes 42 = .ok (.getfield 7, 3) := by decide +kernel
theorem dX6_planGoes_45 : decode cX6_planGoes 45 = .ok (.bipush 53, 2) := by decide +kernel
theorem dX6_planGoes_47 : decode cX6_planGoes 47 = .ok (.iload_n 2, 1) := by decide +kernel
theorem dX6_planGoes_48 : decode cX6_planGoes 48 = .ok (.iadd, 1) := by decide +kernel
theorem dX6_planGoes_49 : decode cX6_planGoes 49 = .ok (.iaload, 1) := by decide +kernel
theorem dX6_planGoes_50 : decode cX6_planGoes 50 = .ok (.aload_n 0, 1) := by decide +kernel
theorem dX6_planGoes_51 : decode cX6_planGoes 51 = .ok (.getfield 7, 3) := by decide +kernel
theorem dX6_planGoes_54 : decode cX6_planGoes 54 = .ok (.bipush 59, 2) := by decide +kernel
theorem dX6_planGoes_56 : decode cX6_planGoes 56 = .ok (.iload_n 2, 1) := by decide +kernel
theorem dX6_planGoes_57 : decode cX6_planGoes 57 = .ok (.iadd, 1) := by decide +kernel
theorem dX6_planGoes_58 : decode cX6_planGoes 58 = .ok (.iaload, 1) := by decide +kernel
theorem dX6_planGoes_59 : decode cX6_planGoes 59 = .ok (.invokevirtual 208, 3) := by decide +kernel
theorem dX6_planGoes_62 : decode cX6_planGoes 62 = .ok (.ifCond .eq 16, 3) := by decide +kernel
theorem dX6_planGoes_65 : decode cX6_planGoes 65 = .ok (.aload_n 0, 1) := by decide +kernel
theorem dX6_planGoes_66 : decode cX6_planGoes 66 = .ok (.dup, 1) := by decide +kernel
theorem dX6_planGoes_67 : decode cX6_planGoes 67 = .ok (.getfield 224, 3) := by decide +kernel
theorem dX6_planGoes_70 : decode cX6_planGoes 70 = .ok (.iconst 1, 1) := by decide +kernel
theorem dX6_planGoes_71 : decode cX6_planGoes 71 = .ok (.iadd, 1) := by decide +kernel
theorem dX6_planGoes_72 : decode cX6_planGoes 72 = .ok (.putfield 224, 3) := by decide +kernel
theorem dX6_planGoes_75 : decode cX6_planGoes 75 = .ok (.goto 24, 3) := by decide +kernel
theorem dX6_planGoes_78 : decode cX6_planGoes 78 = .ok (.aload_n 0, 1) := by decide +kernel
theorem dX6_planGoes_79 : decode cX6_planGoes 79 = .ok (.aload_n 0, 1) := by decide +kernel
theorem dX6_planGoes_80 : decode cX6_planGoes 80 = .ok (.getfield 227, 3) := by decide +kernel
theorem dX6_planGoes_83 : decode cX6_planGoes 83 = .ok (.bipush (-4), 2) := by decide +kernel
theorem dX6_planGoes_85 : decode cX6_planGoes 85 = .ok (.if_icmp .ne 7, 3) := by decide +kernel
theorem dX6_planGoes_88 : decode cX6_planGoes 88 = .ok (.iload_n 2, 1) := by decide +kernel
theorem dX6_planGoes_89 : decode cX6_planGoes 89 = .ok (.goto 7, 3) := by decide +kernel
theorem dX6_planGoes_92 : decode cX6_planGoes 92 = .ok (.aload_n 0, 1) := by decide +kernel
theorem dX6_planGoes_93 : decode cX6_planGoes 93 = .ok (.getfield 227, 3) := by decide +kernel
theorem dX6_planGoes_96 : decode cX6_planGoes 96 = .ok (.putfield 227, 3) := by decide +kernel
theorem dX6_planGoes_99 : decode cX6_planGoes 99 = .ok (.iinc 2 1, 3) := by decide +kernel
theorem dX6_planGoes_102 : decode cX6_planGoes 102 = .ok (.goto (-81), 3) := by decide +kernel
theorem dX6_planGoes_105 : decode cX6_planGoes 105 = .ok (.return_, 1) := by decide +kernel
theorem dX6_runs_0 : decode cX6_runs 0 = .ok (.iload_n 1, 1) := by decide +kernel
theorem dX6_runs_1 : decode cX6_runs 1 = .ok (.i2l, 1) := by decide +kernel
theorem dX6_runs_2 : decode cX6_runs 2 = .ok (.lconst 0, 1) := by decide +kernel
theorem dX6_runs_3 : decode cX6_runs 3 = .ok (.ldc2_w 195, 3) := by decide +kernel
theorem dX6_runs_6 : decode cX6_runs 6 = .ok (.invokestatic 49, 3) := by decide +kernel
theorem dX6_runs_9 : decode cX6_runs 9 = .ok (.ifCond .ne 5, 3) := by decide +kernel
theorem dX6_runs_12 : decode cX6_runs 12 = .ok (.iconst (-1), 1) := by decide +kernel
theorem dX6_runs_13 : decode cX6_runs 13 = .ok (.ireturn, 1) := by decide +kernel
theorem dX6_runs_14 : decode cX6_runs 14 = .ok (.aload_n 0, 1) := by decide +kernel
theorem dX6_runs_15 : decode cX6_runs 15 = .ok (.bipush (-4), 2) := by decide +kernel
theorem dX6_runs_17 : decode cX6_runs 17 = .ok (.invokevirtual 230, 3) := by decide +kernel
theorem dX6_runs_20 : decode cX6_runs 20 = .ok (.iload_n 1, 1) := by decide +kernel
theorem dX6_runs_21 : decode cX6_runs 21 = .ok (.ifCond .ne 10, 3) := by decide +kernel
theorem dX6_runs_24 : decode cX6_runs 24 = .ok (.aload_n 0, 1) := by decide +kernel
theorem dX6_runs_25 : decode cX6_runs 25 = .ok (.getfield 224, 3) := by decide +kernel
theorem dX6_runs_28 : decode cX6_runs 28 = .ok (.goto 37, 3) := by decide +kernel
theorem dX6_runs_31 : decode cX6_runs 31 = .ok (.iload_n 1, 1) := by decide +kernel
theorem dX6_runs_32 : decode cX6_runs 32 = .ok (.iconst 1, 1) := by decide +kernel
theorem dX6_runs_33 : decode cX6_runs 33 = .ok (.if_icmp .ne 10, 3) := by decide +kernel
theorem dX6_runs_36 : decode cX6_runs 36 = .ok (.aload_n 0, 1) := by decide +kernel
theorem dX6_runs_37 : decode cX6_runs 37 = .ok (.getfield 227, 3) := by decide +kernel
theorem dX6_runs_40 : decode cX6_runs 40 = .ok (.goto 25, 3) := by decide +kernel
theorem dX6_runs_43 : decode cX6_runs 43 = .ok (.iload_n 1, 1) := by decide +kernel
theorem dX6_runs_44 : decode cX6_runs 44 = .ok (.iconst 2, 1) := by decide +kernel
theorem dX6_runs_45 : decode cX6_runs 45 = .ok (.if_icmp .ne 13, 3) := by decide +kernel
theorem dX6_runs_48 : decode cX6_runs 48 = .ok (.aload_n 0, 1) := by decide +kernel
theorem dX6_runs_49 : decode cX6_runs 49 = .ok (.sipush 260, 3) := by decide +kernel
theorem dX6_runs_52 : decode cX6_runs 52 = .ok (.invokevirtual 233, 3) := by decide +kernel
theorem dX6_runs_55 : decode cX6_runs 55 = .ok (.goto 10, 3) := by decide +kernel
theorem dX6_runs_58 : decode cX6_runs 58 = .ok (.aload_n 0, 1) := by decide +kernel
theorem dX6_runs_59 : decode cX6_runs 59 = .ok (.sipush 260, 3) := by decide +kernel
theorem dX6_runs_62 : decode cX6_runs 62 = .ok (.invokevirtual 182, 3) := by decide +kernel
theorem dX6_runs_65 : decode cX6_runs 65 = .ok (.ireturn, 1) := by decide +kernel
theorem dX6_ahead_0 : decode cX6_ahead 0 = .ok (.aload_n 0, 1) := by decide +kernel
theorem dX6_ahead_1 : decode cX6_ahead 1 = .ok (.iload_n 1, 1) := by decide +kernel
theorem dX6_ahead_2 : decode cX6_ahead 2 = .ok (.invokevirtual 185, 3) := by decide +kernel
theorem dX6_ahead_5 : decode cX6_ahead 5 = .ok (.ifCond .ne 5, 3) := by decide +kernel
theorem dX6_ahead_8 : decode cX6_ahead 8 = .ok (.iconst (-1), 1) := by decide +kernel
theorem dX6_ahead_9 : decode cX6_ahead 9 = .ok (.ireturn, 1) := by decide +kernel
theorem dX6_ahead_10 : decode cX6_ahead 10 = .ok (.aload_n 0, 1) := by decide +kernel
theorem dX6_ahead_11 : decode cX6_ahead 11 = .ok (.bipush (-4), 2) := by decide +kernel
theorem dX6_ahead_13 : decode cX6_ahead 13 = .ok (.invokevirtual 230, 3) := by decide +kernel
theorem dX6_ahead_16 : decode cX6_ahead 16 = .ok (.aload_n 0, 1) := by decide +kernel
theorem dX6_ahead_17 : decode cX6_ahead 17 = .ok (.sipush 260, 3) := by decide +kernel
theorem dX6_ahead_20 : decode cX6_ahead 20 = .ok (.iload_n 1, 1) := by decide +kernel
theorem dX6_ahead_21 : decode cX6_ahead 21 = .ok (.invokevirtual 169, 3) := by decide +kernel
theorem dX6_ahead_24 : decode cX6_ahead 24 = .ok (.ireturn, 1) := by decide +kernel
theorem dX6_stepsBy_0 : decode cX6_stepsBy 0 = .ok (.aload_n 0, 1) := by decide +kernel
theorem dX6_stepsBy_1 : decode cX6_stepsBy 1 = .ok (.iconst 0, 1) := by decide +kernel
theorem dX6_stepsBy_2 : decode cX6_stepsBy 2 = .ok (.sipush 260, 3) := by decide +kernel
theorem dX6_stepsBy_5 : decode cX6_stepsBy 5 = .ok (.invokevirtual 220, 3) := by decide +kernel
theorem dX6_stepsBy_8 : decode cX6_stepsBy 8 = .ok (.aload_n 0, 1) := by decide +kernel
theorem dX6_stepsBy_9 : decode cX6_stepsBy 9 = .ok (.sipush 260, 3) := by decide +kernel
theorem dX6_stepsBy_12 : decode cX6_stepsBy 12 = .ok (.iload_n 1, 1) := by decide +kernel
theorem dX6_stepsBy_13 : decode cX6_stepsBy 13 = .ok (.iload_n 2, 1) := by decide +kernel
theorem dX6_stepsBy_14 : decode cX6_stepsBy 14 = .ok (.invokevirtual 208, 3) := by decide +kernel
theorem dX6_stepsBy_17 : decode cX6_stepsBy 17 = .ok (.ifCond .eq 16, 3) := by decide +kernel
theorem dX6_stepsBy_20 : decode cX6_stepsBy 20 = .ok (.aload_n 0, 1) := by decide +kernel
theorem dX6_stepsBy_21 : decode cX6_stepsBy 21 = .ok (.sipush 260, 3) := by decide +kernel
theorem dX6_stepsBy_24 : decode cX6_stepsBy 24 = .ok (.iload_n 3, 1) := by decide +kernel
theorem dX6_stepsBy_25 : decode cX6_stepsBy 25 = .ok (.iload 4, 2) := by decide +kernel
theorem dX6_stepsBy_27 : decode cX6_stepsBy 27 = .ok (.invokevirtual 217, 3) := by decide +kernel
theorem dX6_stepsBy_30 : decode cX6_stepsBy 30 = .ok (.goto 5, 3) := by decide +kernel
theorem dX6_stepsBy_33 : decode cX6_stepsBy 33 = .ok (.bipush (-4), 2) := by decide +kernel
theorem dX6_stepsBy_35 : decode cX6_stepsBy 35 = .ok (.ireturn, 1) := by decide +kernel
theorem dX6_best_0 : decode cX6_best 0 = .ok (.aload_n 0, 1) := by decide +kernel
theorem dX6_best_1 : decode cX6_best 1 = .ok (.iload_n 1, 1) := by decide +kernel
theorem dX6_best_2 : decode cX6_best 2 = .ok (.invokevirtual 185, 3) := by decide +kernel
theorem dX6_best_5 : decode cX6_best 5 = .ok (.ifCond .eq 20, 3) := by decide +kernel
theorem dX6_best_8 : decode cX6_best 8 = .ok (.iload_n 2, 1) := by decide +kernel
theorem dX6_best_9 : decode cX6_best 9 = .ok (.invokestatic 197, 3) := by decide +kernel
theorem dX6_best_12 : decode cX6_best 12 = .ok (.ifCond .eq 13, 3) := by decide +kernel
theorem dX6_best_15 : decode cX6_best 15 = .ok (.iload_n 3, 1) := by decide +kernel
theorem dX6_best_16 : decode cX6_best 16 = .ok (.i2l, 1) := by decide +kernel
theorem dX6_best_17 : decode cX6_best 17 = .ok (.lconst 0, 1) := by decide +kernel
theorem dX6_best_18 : decode cX6_best 18 = .ok (.lconst 1, 1) := by decide +kernel
theorem dX6_best_19 : decode cX6_best 19 = .ok (.invokestatic 49, 3) := by decide +kernel
theorem dX6_best_22 : decode cX6_best 22 = .ok (.ifCond .ne 5, 3) := by decide +kernel
theorem dX6_best_25 : decode cX6_best 25 = .ok (.iconst (-1), 1) := by decide +kernel
theorem dX6_best_26 : decode cX6_best 26 = .ok (.ireturn, 1) := by decide +kernel
theorem dX6_best_27 : decode cX6_best 27 = .ok (.aload_n 0, 1) := by decide +kernel
theorem dX6_best_28 : decode cX6_best 28 = .ok (.iconst 0, 1) := by decide +kernel
theorem dX6_best_29 : decode cX6_best 29 = .ok (.iload_n 1, 1) := by decide +kernel
theorem dX6_best_30 : decode cX6_best 30 = .ok (.invokevirtual 175, 3) := by decide +kernel
theorem dX6_best_33 : decode cX6_best 33 = .ok (.ifCond .ne 6, 3) := by decide +kernel
theorem dX6_best_36 : decode cX6_best 36 = .ok (.bipush (-2), 2) := by decide +kernel
theorem dX6_best_38 : decode cX6_best 38 = .ok (.ireturn, 1) := by decide +kernel
theorem dX6_best_39 : decode cX6_best 39 = .ok (.bipush 100, 2) := by decide +kernel
theorem dX6_best_41 : decode cX6_best 41 = .ok (.istore 4, 2) := by decide +kernel
theorem dX6_best_43 : decode cX6_best 43 = .ok (.bipush (-4), 2) := by decide +kernel
theorem dX6_best_45 : decode cX6_best 45 = .ok (.istore 5, 2) := by decide +kernel
theorem dX6_best_47 : decode cX6_best 47 = .ok (.iconst 0, 1) := by decide +kernel
theorem dX6_best_48 : decode cX6_best 48 = .ok (.istore 6, 2) := by decide +kernel
theorem dX6_best_50 : decode cX6_best 50 = .ok (.iload 6, 2) := by decide +kernel
theorem dX6_best_52 : decode cX6_best 52 = .ok (.aload_n 0, 1) := by decide +kernel
theorem dX6_best_53 : decode cX6_best 53 = .ok (.getfield 7, 3) := by decide +kernel
theorem dX6_best_56 : decode cX6_best 56 = .ok (.bipush 25, 2) := by decide +kernel
theorem dX6_best_58 : decode cX6_best 58 = .ok (.iaload, 1) := by decide +kernel
theorem dX6_best_59 : decode cX6_best 59 = .ok (.if_icmp .ge 66, 3) := by decide +kernel
theorem dX6_best_62 : decode cX6_best 62 = .ok (.aload_n 0, 1) := by decide +kernel
theorem dX6_best_63 : decode cX6_best 63 = .ok (.iload_n 1, 1) := by decide +kernel
theorem dX6_best_64 : decode cX6_best 64 = .ok (.iload 6, 2) := by decide +kernel
theorem dX6_best_66 : decode cX6_best 66 = .ok (.iload_n 1, 1) := by decide +kernel
theorem dX6_best_67 : decode cX6_best 67 = .ok (.iload_n 2, 1) := by decide +kernel
theorem dX6_best_68 : decode cX6_best 68 = .ok (.invokevirtual 236, 3) := by decide +kernel
theorem dX6_best_71 : decode cX6_best 71 = .ok (.istore 7, 2) := by decide +kernel
theorem dX6_best_73 : decode cX6_best 73 = .ok (.iload 7, 2) := by decide +kernel
theorem dX6_best_75 : decode cX6_best 75 = .ok (.bipush (-4), 2) := by decide +kernel
theorem dX6_best_77 : decode cX6_best 77 = .ok (.if_icmp .eq 15, 3) := by decide +kernel
theorem dX6_best_80 : decode cX6_best 80 = .ok (.iload 7, 2) := by decide +kernel
theorem dX6_best_82 : decode cX6_best 82 = .ok (.iload 4, 2) := by decide +kernel
theorem dX6_best_84 : decode cX6_best 84 = .ok (.if_icmp .ge 8, 3) := by decide +kernel
theorem dX6_best_87 : decode cX6_best 87 = .ok (.iload 6, 2) := by decide +kernel
theorem dX6_best_89 : decode cX6_best 89 = .ok (.goto 5, 3) := by decide +kernel
theorem dX6_best_92 : decode cX6_best 92 = .ok (.iload 5, 2) := by decide +kernel
theorem dX6_best_94 : decode cX6_best 94 = .ok (.istore 5, 2) := by decide +kernel
theorem dX6_best_96 : decode cX6_best 96 = .ok (.iload 7, 2) := by decide +kernel
theorem dX6_best_98 : decode cX6_best 98 = .ok (.bipush (-4), 2) := by decide +kernel
theorem dX6_best_100 : decode cX6_best 100 = .ok (.if_icmp .eq 15, 3) := by decide +kernel
theorem dX6_best_103 : decode cX6_best 103 = .ok (.iload 7, 2) := by decide +kernel
theorem dX6_best_105 : decode cX6_best 105 = .ok (.iload 4, 2) := by decide +kernel
theorem dX6_best_107 : decode cX6_best 107 = .ok (.if_icmp .ge 8, 3) := by decide +kernel
theorem dX6_best_110 : decode cX6_best 110 = .ok (.iload 7, 2) := by decide +kernel
theorem dX6_best_112 : decode cX6_best 112 = .ok (.goto 5, 3) := by decide +kernel
theorem dX6_best_115 : decode cX6_best 115 = .ok (.iload 4, 2) := by decide +kernel
theorem dX6_best_117 : decode cX6_best 117 = .ok (.istore 4, 2) := by decide +kernel
theorem dX6_best_119 : decode cX6_best 119 = .ok (.iinc 6 1, 3) := by decide +kernel
theorem dX6_best_122 : decode cX6_best 122 = .ok (.goto (-72), 3) := by decide +kernel
theorem dX6_best_125 : decode cX6_best 125 = .ok (.iload 5, 2) := by decide +kernel
theorem dX6_best_127 : decode cX6_best 127 = .ok (.bipush (-4), 2) := by decide +kernel
theorem dX6_best_129 : decode cX6_best 129 = .ok (.if_icmp .eq 7, 3) := by decide +kernel
theorem dX6_best_132 : decode cX6_best 132 = .ok (.iload_n 3, 1) := by decide +kernel
theorem dX6_best_133 : decode cX6_best 133 = .ok (.ifCond .ne 8, 3) := by decide +kernel
theorem dX6_best_136 : decode cX6_best 136 = .ok (.iload 5, 2) := by decide +kernel
theorem dX6_best_138 : decode cX6_best 138 = .ok (.goto 5, 3) := by decide +kernel
theorem dX6_best_141 : decode cX6_best 141 = .ok (.iload 4, 2) := by decide +kernel
theorem dX6_best_143 : decode cX6_best 143 = .ok (.ireturn, 1) := by decide +kernel
theorem dX6_friend_0 : decode cX6_friend 0 = .ok (.aload_n 0, 1) := by decide +kernel
theorem dX6_friend_1 : decode cX6_friend 1 = .ok (.iload_n 1, 1) := by decide +kernel
theorem dX6_friend_2 : decode cX6_friend 2 = .ok (.invokevirtual 185, 3) := by decide +kernel
theorem dX6_friend_5 : decode cX6_friend 5 = .ok (.ifCond .eq 20, 3) := by decide +kernel
theorem dX6_friend_8 : decode cX6_friend 8 = .ok (.iload_n 2, 1) := by decide +kernel
theorem dX6_friend_9 : decode cX6_friend 9 = .ok (.invokestatic 197, 3) := by decide +kernel
theorem dX6_friend_12 : decode cX6_friend 12 = .ok (.ifCond .eq 13, 3) := by decide +kernel
theorem dX6_friend_15 : decode cX6_friend 15 = .ok (.iload_n 3, 1) := by decide +kernel
theorem dX6_friend_16 : decode cX6_friend 16 = .ok (.i2l, 1) := by decide +kernel
theorem dX6_friend_17 : decode cX6_friend 17 = .ok (.lconst 0, 1) := by decide +kernel
theorem dX6_friend_18 : decode cX6_friend 18 = .ok (.lconst 1, 1) := by decide +kernel
theorem dX6_friend_19 : decode cX6_friend 19 = .ok (.invokestatic 49, 3) := by decide +kernel
theorem dX6_friend_22 : decode cX6_friend 22 = .ok (.ifCond .ne 5, 3) := by decide +kernel
theorem dX6_friend_25 : decode cX6_friend 25 = .ok (.iconst (-1), 1) := by decide +kernel
theorem dX6_friend_26 : decode cX6_friend 26 = .ok (.ireturn, 1) := by decide +kernel
theorem dX6_friend_27 : decode cX6_friend 27 = .ok (.bipush 100, 2) := by decide +kernel
theorem dX6_friend_29 : decode cX6_friend 29 = .ok (.istore 4, 2) := by decide +kernel
theorem dX6_friend_31 : decode cX6_friend 31 = .ok (.bipush (-4), 2) := by decide +kernel
theorem dX6_friend_33 : decode cX6_friend 33 = .ok (.istore 5, 2) := by decide +kernel
theorem dX6_friend_35 : decode cX6_friend 35 = .ok (.iconst 0, 1) := by decide +kernel
theorem dX6_friend_36 : decode cX6_friend 36 = .ok (.istore 6, 2) := by decide +kernel
theorem dX6_friend_38 : decode cX6_friend 38 = .ok (.iload 6, 2) := by decide +kernel
theorem dX6_friend_40 : decode cX6_friend 40 = .ok (.aload_n 0, 1) := by decide +kernel
theorem dX6_friend_41 : decode cX6_friend 41 = .ok (.getfield 144, 3) := by decide +kernel
theorem dX6_friend_44 : decode cX6_friend 44 = .ok (.if_icmp .ge 105, 3) := by decide +kernel
theorem dX6_friend_47 : decode cX6_friend 47 = .ok (.iconst 0, 1) := by decide +kernel
theorem dX6_friend_48 : decode cX6_friend 48 = .ok (.istore 7, 2) := by decide +kernel
theorem dX6_friend_50 : decode cX6_friend 50 = .ok (.iload 7, 2) := by decide +kernel
theorem dX6_friend_52 : decode cX6_friend 52 = .ok (.aload_n 0, 1) := by decide +kernel
theorem dX6_friend_53 : decode cX6_friend 53 = .ok (.getfield 7, 3) := by decide +kernel
theorem dX6_friend_56 : decode cX6_friend 56 = .ok (.bipush 25, 2) := by decide +kernel
theorem dX6_friend_58 : decode cX6_friend 58 = .ok (.iaload, 1) := by decide +kernel
theorem dX6_friend_59 : decode cX6_friend 59 = .ok (.if_icmp .ge 84, 3) := by decide +kernel
theorem dX6_friend_62 : decode cX6_friend 62 = .ok (.iload 6, 2) := by decide +kernel
theorem dX6_friend_64 : decode cX6_friend 64 = .ok (.iload_n 1, 1) := by decide +kernel
theorem dX6_friend_65 : decode cX6_friend 65 = .ok (.if_icmp .ne 8, 3) := by decide +kernel
theorem dX6_friend_68 : decode cX6_friend 68 = .ok (.bipush (-4), 2) := by decide +kernel
theorem dX6_friend_70 : decode cX6_friend 70 = .ok (.goto 13, 3) := by decide +kernel
theorem dX6_friend_73 : decode cX6_friend 73 = .ok (.aload_n 0, 1) := by decide +kernel
theorem dX6_friend_74 : decode cX6_friend 74 = .ok (.iload 6, 2) := by decide +kernel
theorem dX6_friend_76 : decode cX6_friend 76 = .ok (.iload 7, 2) := by decide +kernel
theorem dX6_friend_78 : decode cX6_friend 78 = .ok (.iload_n 1, 1) := by decide +kernel
theorem dX6_friend_79 : decode cX6_friend 79 = .ok (.iload_n 2, 1) := by decide +kernel
theorem dX6_friend_80 : decode cX6_friend 80 = .ok (.invokevirtual 236, 3) := by decide +kernel
theorem dX6_friend_83 : decode cX6_friend 83 = .ok (.istore 8, 2) := by decide +kernel
theorem dX6_friend_85 : decode cX6_friend 85 = .ok (.iload 8, 2) := by decide +kernel
theorem dX6_friend_87 : decode cX6_friend 87 = .ok (.bipush (-4), 2) := by decide +kernel
theorem dX6_friend_89 : decode cX6_friend 89 = .ok (.if_icmp .eq 21, 3) := by decide +kernel
theorem dX6_friend_92 : decode cX6_friend 92 = .ok (.iload 8, 2) := by decide +kernel
theorem dX6_friend_94 : decode cX6_friend 94 = .ok (.iload 4, 2) := by decide +kernel
theorem dX6_friend_96 : decode cX6_friend 96 = .ok (.if_icmp .ge 14, 3) := by decide +kernel
theorem dX6_friend_99 : decode cX6_friend 99 = .ok (.bipush 10, 2) := by decide +kernel
theorem dX6_friend_101 : decode cX6_friend 101 = .ok (.iload 6, 2) := by decide +kernel
theorem dX6_friend_103 : decode cX6_friend 103 = .ok (.imul, 1) := by decide +kernel
theorem dX6_friend_104 : decode cX6_friend 104 = .ok (.iload 7, 2) := by decide +kernel
theorem dX6_friend_106 : decode cX6_friend 106 = .ok (.iadd, 1) := by decide +kernel
theorem dX6_friend_107 : decode cX6_friend 107 = .ok (.goto 5, 3) := by decide +kernel
theorem dX6_friend_110 : decode cX6_friend 110 = .ok (.iload 5, 2) := by decide +kernel
theorem dX6_friend_112 : decode cX6_friend 112 = .ok (.istore 5, 2) := by decide +kernel
theorem dX6_friend_114 : decode cX6_friend 114 = .ok (.iload 8, 2) := by decide +kernel
theorem dX6_friend_116 : decode cX6_friend 116 = .ok (.bipush (-4), 2) := by decide +kernel
theorem dX6_friend_118 : decode cX6_friend 118 = .ok (.if_icmp .eq 15, 3) := by decide +kernel
theorem dX6_friend_121 : decode cX6_friend 121 = .ok (.iload 8, 2) := by decide +kernel
theorem dX6_friend_123 : decode cX6_friend 123 = .ok (.iload 4, 2) := by decide +kernel
theorem dX6_friend_125 : decode cX6_friend 125 = .ok (.if_icmp .ge 8, 3) := by decide +kernel
theorem dX6_friend_128 : decode cX6_friend 128 = .ok (.iload 8, 2) := by decide +kernel
theorem dX6_friend_130 : decode cX6_friend 130 = .ok (.goto 5, 3) := by decide +kernel
theorem dX6_friend_133 : decode cX6_friend 133 = .ok (.iload 4, 2) := by decide +kernel
theorem dX6_friend_135 : decode cX6_friend 135 = .ok (.istore 4, 2) := by decide +kernel
theorem dX6_friend_137 : decode cX6_friend 137 = .ok (.iinc 7 1, 3) := by decide +kernel
theorem dX6_friend_140 : decode cX6_friend 140 = .ok (.goto (-90), 3) := by decide +kernel
theorem dX6_friend_143 : decode cX6_friend 143 = .ok (.iinc 6 1, 3) := by decide +kernel
theorem dX6_friend_146 : decode cX6_friend 146 = .ok (.goto (-108), 3) := by decide +kernel
theorem dX6_friend_149 : decode cX6_friend 149 = .ok (.iload 5, 2) := by decide +kernel
theorem dX6_friend_151 : decode cX6_friend 151 = .ok (.bipush (-4), 2) := by decide +kernel
theorem dX6_friend_153 : decode cX6_friend 153 = .ok (.if_icmp .eq 7, 3) := by decide +kernel
theorem dX6_friend_156 : decode cX6_friend 156 = .ok (.iload_n 3, 1) := by decide +kernel
theorem dX6_friend_157 : decode cX6_friend 157 = .ok (.ifCond .ne 8, 3) := by decide +kernel
theorem dX6_friend_160 : decode cX6_friend 160 = .ok (.iload 5, 2) := by decide +kernel
theorem dX6_friend_162 : decode cX6_friend 162 = .ok (.goto 5, 3) := by decide +kernel
theorem dX6_friend_165 : decode cX6_friend 165 = .ok (.iload 4, 2) := by decide +kernel
theorem dX6_friend_167 : decode cX6_friend 167 = .ok (.ireturn, 1) := by decide +kernel
theorem dX6_gain_0 : decode cX6_gain 0 = .ok (.aload_n 0, 1) := by decide +kernel
theorem dX6_gain_1 : decode cX6_gain 1 = .ok (.iload_n 1, 1) := by decide +kernel
theorem dX6_gain_2 : decode cX6_gain 2 = .ok (.invokevirtual 185, 3) := by decide +kernel
theorem dX6_gain_5 : decode cX6_gain 5 = .ok (.ifCond .eq 13, 3) := by decide +kernel
theorem dX6_gain_8 : decode cX6_gain 8 = .ok (.iload_n 2, 1) := by decide +kernel
theorem dX6_gain_9 : decode cX6_gain 9 = .ok (.i2l, 1) := by decide +kernel
theorem dX6_gain_10 : decode cX6_gain 10 = .ok (.lconst 0, 1) := by decide +kernel
theorem dX6_gain_11 : decode cX6_gain 11 = .ok (.lconst 1, 1) := by decide +kernel
theorem dX6_gain_12 : decode cX6_gain 12 = .ok (.invokestatic 49, 3) := by decide +kernel
theorem dX6_gain_15 : decode cX6_gain 15 = .ok (.ifCond .ne 5, 3) := by decide +kernel
theorem dX6_gain_18 : decode cX6_gain 18 = .ok (.iconst (-1), 1) := by decide +kernel
theorem dX6_gain_19 : decode cX6_gain 19 = .ok (.ireturn, 1) := by decide +kernel
theorem dX6_gain_20 : decode cX6_gain 20 = .ok (.aload_n 0, 1) := by decide +kernel
theorem dX6_gain_21 : decode cX6_gain 21 = .ok (.iconst 0, 1) := by decide +kernel
theorem dX6_gain_22 : decode cX6_gain 22 = .ok (.iload_n 1, 1) := by decide +kernel
theorem dX6_gain_23 : decode cX6_gain 23 = .ok (.invokevirtual 175, 3) := by decide +kernel
theorem dX6_gain_26 : decode cX6_gain 26 = .ok (.ifCond .ne 6, 3) := by decide +kernel
theorem dX6_gain_29 : decode cX6_gain 29 = .ok (.bipush (-2), 2) := by decide +kernel
theorem dX6_gain_31 : decode cX6_gain 31 = .ok (.ireturn, 1) := by decide +kernel
theorem dX6_gain_32 : decode cX6_gain 32 = .ok (.aload_n 0, 1) := by decide +kernel
theorem dX6_gain_33 : decode cX6_gain 33 = .ok (.iconst 0, 1) := by decide +kernel
theorem dX6_gain_34 : decode cX6_gain 34 = .ok (.iload_n 1, 1) := by decide +kernel
theorem dX6_gain_35 : decode cX6_gain 35 = .ok (.invokevirtual 189, 3) := by decide +kernel
theorem dX6_gain_38 : decode cX6_gain 38 = .ok (.istore_n 3, 1) := by decide +kernel
theorem dX6_gain_39 : decode cX6_gain 39 = .ok (.bipush (-4), 2) := by decide +kernel
theorem dX6_gain_41 : decode cX6_gain 41 = .ok (.istore 4, 2) := by decide +kernel
theorem dX6_gain_43 : decode cX6_gain 43 = .ok (.iconst 0, 1) := by decide +kernel
theorem dX6_gain_44 : decode cX6_gain 44 = .ok (.istore 5, 2) := by decide +kernel
theorem dX6_gain_46 : decode cX6_gain 46 = .ok (.iload 5, 2) := by decide +kernel
theorem dX6_gain_48 : decode cX6_gain 48 = .ok (.aload_n 0, 1) := by decide +kernel
theorem dX6_gain_49 : decode cX6_gain 49 = .ok (.getfield 7, 3) := by decide +kernel
theorem dX6_gain_52 : decode cX6_gain 52 = .ok (.bipush 25, 2) := by decide +kernel
theorem dX6_gain_54 : decode cX6_gain 54 = .ok (.iaload, 1) := by decide +kernel
theorem dX6_gain_55 : decode cX6_gain 55 = .ok (.if_icmp .ge 68, 3) := by decide +kernel
theorem dX6_gain_58 : decode cX6_gain 58 = .ok (.aload_n 0, 1) := by decide +kernel
theorem dX6_gain_59 : decode cX6_gain 59 = .ok (.iconst 0, 1) := by decide +kernel
theorem dX6_gain_60 : decode cX6_gain 60 = .ok (.sipush 260, 3) := by decide +kernel
theorem dX6_gain_63 : decode cX6_gain 63 = .ok (.invokevirtual 220, 3) := by decide +kernel
theorem dX6_gain_66 : decode cX6_gain 66 = .ok (.aload_n 0, 1) := by decide +kernel
theorem dX6_gain_67 : decode cX6_gain 67 = .ok (.sipush 260, 3) := by decide +kernel
theorem dX6_gain_70 : decode cX6_gain 70 = .ok (.iload_n 1, 1) := by decide +kernel
theorem dX6_gain_71 : decode cX6_gain 71 = .ok (.iload 5, 2) := by decide +kernel
theorem dX6_gain_73 : decode cX6_gain 73 = .ok (.invokevirtual 208, 3) := by decide +kernel
theorem dX6_gain_76 : decode cX6_gain 76 = .ok (.ifCond .eq 41, 3) := by decide +kernel
theorem dX6_gain_79 : decode cX6_gain 79 = .ok (.aload_n 0, 1) := by decide +kernel
theorem dX6_gain_80 : decode cX6_gain 80 = .ok (.sipush 260, 3) := by decide +kernel
theorem dX6_gain_83 : decode cX6_gain 83 = .ok (.iload_n 1, 1) := by decide +kernel
theorem dX6_gain_84 : decode cX6_gain 84 = .ok (.invokevirtual 189, 3) := by decide +kernel
theorem dX6_gain_87 : decode cX6_gain 87 = .ok (.istore 6, 2) := by decide +kernel
theorem dX6_gain_89 : decode cX6_gain 89 = .ok (.iload 6, 2) := by decide +kernel
theorem dX6_gain_91 : decode cX6_gain 91 = .ok (.iload_n 3, 1) := by decide +kernel
theorem dX6_gain_92 : decode cX6_gain 92 = .ok (.if_icmp .le 8, 3) := by decide +kernel
theorem dX6_gain_95 : decode cX6_gain 95 = .ok (.iload 5, 2) := by decide +kernel
theorem dX6_gain_97 : decode cX6_gain 97 = .ok (.goto 5, 3) := by decide +kernel
theorem dX6_gain_100 : decode cX6_gain 100 = .ok (.iload 4, 2) := by decide +kernel
theorem dX6_gain_102 : decode cX6_gain 102 = .ok (.istore 4, 2) := by decide +kernel
theorem dX6_gain_104 : decode cX6_gain 104 = .ok (.iload 6, 2) := by decide +kernel
theorem dX6_gain_106 : decode cX6_gain 106 = .ok (.iload_n 3, 1) := by decide +kernel
theorem dX6_gain_107 : decode cX6_gain 107 = .ok (.if_icmp .le 8, 3) := by decide +kernel
theorem dX6_gain_110 : decode cX6_gain 110 = .ok (.iload 6, 2) := by decide +kernel
theorem dX6_gain_112 : decode cX6_gain 112 = .ok (.goto 4, 3) := by decide +kernel
theorem dX6_gain_115 : decode cX6_gain 115 = .ok (.iload_n 3, 1) := by decide +kernel
theorem dX6_gain_116 : decode cX6_gain 116 = .ok (.istore_n 3, 1) := by decide +kernel
theorem dX6_gain_117 : decode cX6_gain 117 = .ok (.iinc 5 1, 3) := by decide +kernel
theorem dX6_gain_120 : decode cX6_gain 120 = .ok (.goto (-74), 3) := by decide +kernel
theorem dX6_gain_123 : decode cX6_gain 123 = .ok (.iload 4, 2) := by decide +kernel
theorem dX6_gain_125 : decode cX6_gain 125 = .ok (.bipush (-4), 2) := by decide +kernel
theorem dX6_gain_127 : decode cX6_gain 127 = .ok (.if_icmp .eq 7, 3) := by decide +kernel
theorem dX6_gain_130 : decode cX6_gain 130 = .ok (.iload_n 2, 1) := by decide +kernel
theorem dX6_gain_131 : decode cX6_gain 131 = .ok (.ifCond .ne 8, 3) := by decide +kernel
theorem dX6_gain_134 : decode cX6_gain 134 = .ok (.iload 4, 2) := by decide +kernel
theorem dX6_gain_136 : decode cX6_gain 136 = .ok (.goto 4, 3) := by decide +kernel
theorem dX6_gain_139 : decode cX6_gain 139 = .ok (.iload_n 3, 1) := by decide +kernel
theorem dX6_gain_140 : decode cX6_gain 140 = .ok (.ireturn, 1) := by decide +kernel
theorem dX6_shut_0 : decode cX6_shut 0 = .ok (.aload_n 0, 1) := by decide +kernel
theorem dX6_shut_1 : decode cX6_shut 1 = .ok (.iload_n 1, 1) := by decide +kernel
theorem dX6_shut_2 : decode cX6_shut 2 = .ok (.invokevirtual 185, 3) := by decide +kernel
theorem dX6_shut_5 : decode cX6_shut 5 = .ok (.ifCond .eq 20, 3) := by decide +kernel
theorem dX6_shut_8 : decode cX6_shut 8 = .ok (.iload_n 2, 1) := by decide +kernel
theorem dX6_shut_9 : decode cX6_shut 9 = .ok (.invokestatic 197, 3) := by decide +kernel
theorem dX6_shut_12 : decode cX6_shut 12 = .ok (.ifCond .eq 13, 3) := by decide +kernel
theorem dX6_shut_15 : decode cX6_shut 15 = .ok (.iload_n 3, 1) := by decide +kernel
theorem dX6_shut_16 : decode cX6_shut 16 = .ok (.i2l, 1) := by decide +kernel
theorem dX6_shut_17 : decode cX6_shut 17 = .ok (.lconst 0, 1) := by decide +kernel
theorem dX6_shut_18 : decode cX6_shut 18 = .ok (.lconst 1, 1) := by decide +kernel
theorem dX6_shut_19 : decode cX6_shut 19 = .ok (.invokestatic 49, 3) := by decide +kernel
theorem dX6_shut_22 : decode cX6_shut 22 = .ok (.ifCond .ne 5, 3) := by decide +kernel
theorem dX6_shut_25 : decode cX6_shut 25 = .ok (.iconst (-1), 1) := by decide +kernel
theorem dX6_shut_26 : decode cX6_shut 26 = .ok (.ireturn, 1) := by decide +kernel
theorem dX6_shut_27 : decode cX6_shut 27 = .ok (.aload_n 0, 1) := by decide +kernel
theorem dX6_shut_28 : decode cX6_shut 28 = .ok (.getfield 7, 3) := by decide +kernel
theorem dX6_shut_31 : decode cX6_shut 31 = .ok (.bipush 10, 2) := by decide +kernel
theorem dX6_shut_33 : decode cX6_shut 33 = .ok (.iload_n 1, 1) := by decide +kernel
theorem dX6_shut_34 : decode cX6_shut 34 = .ok (.iadd, 1) := by decide +kernel
theorem dX6_shut_35 : decode cX6_shut 35 = .ok (.iaload, 1) := by decide +kernel
theorem dX6_shut_36 : decode cX6_shut 36 = .ok (.iload_n 2, 1) := by decide +kernel
theorem dX6_shut_37 : decode cX6_shut 37 = .ok (.if_icmp .ne 6, 3) := by decide +kernel
theorem dX6_shut_40 : decode cX6_shut 40 = .ok (.bipush (-2), 2) := by decide +kernel
theorem dX6_shut_42 : decode cX6_shut 42 = .ok (.ireturn, 1) := by decide +kernel
theorem dX6_shut_43 : decode cX6_shut 43 = .ok (.bipush 100, 2) := by decide +kernel
theorem dX6_shut_45 : decode cX6_shut 45 = .ok (.istore 4, 2) := by decide +kernel
theorem dX6_shut_47 : decode cX6_shut 47 = .ok (.iconst 0, 1) := by decide +kernel
theorem dX6_shut_48 : decode cX6_shut 48 = .ok (.istore 5, 2) := by decide +kernel
theorem dX6_shut_50 : decode cX6_shut 50 = .ok (.iconst 0, 1) := by decide +kernel
theorem dX6_shut_51 : decode cX6_shut 51 = .ok (.istore 6, 2) := by decide +kernel
theorem dX6_shut_53 : decode cX6_shut 53 = .ok (.iload 6, 2) := by decide +kernel
theorem dX6_shut_55 : decode cX6_shut 55 = .ok (.iconst 1, 1) := by decide +kernel
theorem dX6_shut_56 : decode cX6_shut 56 = .ok (.aload_n 0, 1) := by decide +kernel
theorem dX6_shut_57 : decode cX6_shut 57 = .ok (.getfield 7, 3) := by decide +kernel
theorem dX6_shut_60 : decode cX6_shut 60 = .ok (.bipush 25, 2) := by decide +kernel
theorem dX6_shut_62 : decode cX6_shut 62 = .ok (.iaload, 1) := by decide +kernel
theorem dX6_shut_63 : decode cX6_shut 63 = .ok (.ishl, 1) := by decide +kernel
theorem dX6_shut_64 : decode cX6_shut 64 = .ok (.if_icmp .ge 122, 3) := by decide +kernel
theorem dX6_shut_67 : decode cX6_shut 67 = .ok (.iload 6, 2) := by decide +kernel
theorem dX6_shut_69 : decode cX6_shut 69 = .ok (.invokestatic 172, 3) := by decide +kernel
theorem dX6_shut_72 : decode cX6_shut 72 = .ok (.iload 4, 2) := by decide +kernel
theorem dX6_shut_74 : decode cX6_shut 74 = .ok (.if_icmp .ge 106, 3) := by decide +kernel
theorem dX6_shut_77 : decode cX6_shut 77 = .ok (.aload_n 0, 1) := by decide +kernel
theorem dX6_shut_78 : decode cX6_shut 78 = .ok (.iconst 0, 1) := by decide +kernel
theorem dX6_shut_79 : decode cX6_shut 79 = .ok (.sipush 260, 3) := by decide +kernel
theorem dX6_shut_82 : decode cX6_shut 82 = .ok (.invokevirtual 220, 3) := by decide +kernel
theorem dX6_shut_85 : decode cX6_shut 85 = .ok (.iconst 0, 1) := by decide +kernel
theorem dX6_shut_86 : decode cX6_shut 86 = .ok (.istore 7, 2) := by decide +kernel
theorem dX6_shut_88 : decode cX6_shut 88 = .ok (.iload 7, 2) := by decide +kernel
theorem dX6_shut_90 : decode cX6_shut 90 = .ok (.aload_n 0, 1) := by decide +kernel
theorem dX6_shut_91 : decode cX6_shut 91 = .ok (.getfield 7, 3) := by decide +kernel
theorem dX6_shut_94 : decode cX6_shut 94 = .ok (.bipush 25, 2) := by decide +kernel
theorem dX6_shut_96 : decode cX6_shut 96 = .ok (.iaload, 1) := by decide +kernel
theorem dX6_shut_97 : decode cX6_shut 97 = .ok (.if_icmp .ge 30, 3) := by decide +kernel
theorem dX6_shut_100 : decode cX6_shut 100 = .ok (.iload 6, 2) := by decide +kernel
theorem dX6_shut_102 : decode cX6_shut 102 = .ok (.iload 7, 2) := by decide +kernel
theorem dX6_shut_104 : decode cX6_shut 104 = .ok (.ishr, 1) := by decide +kernel
theorem dX6_shut_105 : decode cX6_shut 105 = .ok (.iconst 1, 1) := by decide +kernel
theorem dX6_shut_106 : decode cX6_shut 106 = .ok (.iand, 1) := by decide +kernel
theorem dX6_shut_107 : decode cX6_shut 107 = .ok (.iconst 1, 1) := by decide +kernel
theorem dX6_shut_108 : decode cX6_shut 108 = .ok (.if_icmp .ne 13, 3) := by decide +kernel
theorem dX6_shut_111 : decode cX6_shut 111 = .ok (.aload_n 0, 1) := by decide +kernel
theorem dX6_shut_112 : decode cX6_shut 112 = .ok (.sipush 260, 3) := by decide +kernel
theorem dX6_shut_115 : decode cX6_shut 115 = .ok (.iload 7, 2) := by decide +kernel
theorem dX6_shut_117 : decode cX6_shut 117 = .ok (.invokevirtual 214, 3) := by decide +kernel
theorem dX6_shut_120 : decode cX6_shut 120 = .ok (.pop, 1) := by decide +kernel
theorem dX6_shut_121 : decode cX6_shut 121 = .ok (.iinc 7 1, 3) := by decide +kernel
theorem dX6_shut_124 : decode cX6_shut 124 = .ok (.goto (-36), 3) := by decide +kernel
theorem dX6_shut_127 : decode cX6_shut 127 = .ok (.aload_n 0, 1) := by decide +kernel
theorem dX6_shut_128 : decode cX6_shut 128 = .ok (.sipush 260, 3) := by decide +kernel
theorem dX6_shut_131 : decode cX6_shut 131 = .ok (.iload_n 1, 1) := by decide +kernel
theorem dX6_shut_132 : decode cX6_shut 132 = .ok (.invokevirtual 169, 3) := by decide +kernel
theorem dX6_shut_135 : decode cX6_shut 135 = .ok (.iload_n 2, 1) := by decide +kernel
theorem dX6_shut_136 : decode cX6_shut 136 = .ok (.ishr, 1) := by decide +kernel
theorem dX6_shut_137 : decode cX6_shut 137 = .ok (.iconst 1, 1) := by decide +kernel
theorem dX6_shut_138 : decode cX6_shut 138 = .ok (.iand, 1) := by decide +kernel
theorem dX6_shut_139 : decode cX6_shut 139 = .ok (.ifCond .ne 7, 3) := by decide +kernel
theorem dX6_shut_142 : decode cX6_shut 142 = .ok (.iconst 1, 1) := by decide +kernel
theorem dX6_shut_143 : decode cX6_shut 143 = .ok (.goto 4, 3) := by decide +kernel
theorem dX6_shut_146 : decode cX6_shut 146 = .ok (.iconst 0, 1) := by decide +kernel
theorem dX6_shut_147 : decode cX6_shut 147 = .ok (.istore 7, 2) := by decide +kernel
theorem dX6_shut_149 : decode cX6_shut 149 = .ok (.iload 7, 2) := by decide +kernel
theorem dX6_shut_151 : decode cX6_shut 151 = .ok (.ifCond .eq 8, 3) := by decide +kernel
theorem dX6_shut_154 : decode cX6_shut 154 = .ok (.iload 6, 2) := by decide +kernel
theorem dX6_shut_156 : decode cX6_shut 156 = .ok (.goto 5, 3) := by decide +kernel
theorem dX6_shut_159 : decode cX6_shut 159 = .ok (.iload 5, 2) := by decide +kernel
theorem dX6_shut_161 : decode cX6_shut 161 = .ok (.istore 5, 2) := by decide +kernel
theorem dX6_shut_163 : decode cX6_shut 163 = .ok (.iload 7, 2) := by decide +kernel
theorem dX6_shut_165 : decode cX6_shut 165 = .ok (.ifCond .eq 11, 3) := by decide +kernel
theorem dX6_shut_168 : decode cX6_shut 168 = .ok (.iload 6, 2) := by decide +kernel
theorem dX6_shut_170 : decode cX6_shut 170 = .ok (.invokestatic 172, 3) := by decide +kernel
theorem dX6_shut_173 : decode cX6_shut 173 = .ok (.goto 5, 3) := by decide +kernel
theorem dX6_shut_176 : decode cX6_shut 176 = .ok (.iload 4, 2) := by decide +kernel
theorem dX6_shut_178 : decode cX6_shut 178 = .ok (.istore 4, 2) := by decide +kernel
theorem dX6_shut_180 : decode cX6_shut 180 = .ok (.iinc 6 1, 3) := by decide +kernel
theorem dX6_shut_183 : decode cX6_shut 183 = .ok (.goto (-130), 3) := by decide +kernel
theorem dX6_shut_186 : decode cX6_shut 186 = .ok (.iload_n 3, 1) := by decide +kernel
theorem dX6_shut_187 : decode cX6_shut 187 = .ok (.ifCond .ne 8, 3) := by decide +kernel
theorem dX6_shut_190 : decode cX6_shut 190 = .ok (.iload 4, 2) := by decide +kernel
theorem dX6_shut_192 : decode cX6_shut 192 = .ok (.goto 5, 3) := by decide +kernel
theorem dX6_shut_195 : decode cX6_shut 195 = .ok (.iload 5, 2) := by decide +kernel
theorem dX6_shut_197 : decode cX6_shut 197 = .ok (.ireturn, 1) := by decide +kernel
theorem dX6_leave_0 : decode cX6_leave 0 = .ok (.iload_n 1, 1) := by decide +kernel
theorem dX6_leave_1 : decode cX6_leave 1 = .ok (.i2l, 1) := by decide +kernel
theorem dX6_leave_2 : decode cX6_leave 2 = .ok (.lconst 0, 1) := by decide +kernel
theorem dX6_leave_3 : decode cX6_leave 3 = .ok (.lconst 1, 1) := by decide +kernel
theorem dX6_leave_4 : decode cX6_leave 4 = .ok (.invokestatic 49, 3) := by decide +kernel
theorem dX6_leave_7 : decode cX6_leave 7 = .ok (.ifCond .ne 5, 3) := by decide +kernel
theorem dX6_leave_10 : decode cX6_leave 10 = .ok (.iconst (-1), 1) := by decide +kernel
theorem dX6_leave_11 : decode cX6_leave 11 = .ok (.ireturn, 1) := by decide +kernel
theorem dX6_leave_12 : decode cX6_leave 12 = .ok (.aload_n 0, 1) := by decide +kernel
theorem dX6_leave_13 : decode cX6_leave 13 = .ok (.bipush (-4), 2) := by decide +kernel
theorem dX6_leave_15 : decode cX6_leave 15 = .ok (.invokevirtual 230, 3) := by decide +kernel
theorem dX6_leave_18 : decode cX6_leave 18 = .ok (.aload_n 0, 1) := by decide +kernel
theorem dX6_leave_19 : decode cX6_leave 19 = .ok (.sipush 260, 3) := by decide +kernel
theorem dX6_leave_22 : decode cX6_leave 22 = .ok (.invokevirtual 233, 3) := by decide +kernel
theorem dX6_leave_25 : decode cX6_leave 25 = .ok (.istore_n 2, 1) := by decide +kernel
theorem dX6_leave_26 : decode cX6_leave 26 = .ok (.bipush (-4), 2) := by decide +kernel
theorem dX6_leave_28 : decode cX6_leave 28 = .ok (.istore_n 3, 1) := by decide +kernel
theorem dX6_leave_29 : decode cX6_leave 29 = .ok (.iconst 0, 1) := by decide +kernel
theorem dX6_leave_30 : decode cX6_leave 30 = .ok (.istore 4, 2) := by decide +kernel
theorem dX6_leave_32 : decode cX6_leave 32 = .ok (.iload 4, 2) := by decide +kernel
theorem dX6_leave_34 : decode cX6_leave 34 = .ok (.aload_n 0, 1) := by decide +kernel
theorem dX6_leave_35 : decode cX6_leave 35 = .ok (.getfield 7, 3) := by decide +kernel
theorem dX6_leave_38 : decode cX6_leave 38 = .ok (.bipush 52, 2) := by decide +kernel
theorem dX6_leave_40 : decode cX6_leave 40 = .ok (.iaload, 1) := by decide +kernel
theorem dX6_leave_41 : decode cX6_leave 41 = .ok (.if_icmp .ge 50, 3) := by decide +kernel
theorem dX6_leave_44 : decode cX6_leave 44 = .ok (.aload_n 0, 1) := by decide +kernel
theorem dX6_leave_45 : decode cX6_leave 45 = .ok (.iload 4, 2) := by decide +kernel
theorem dX6_leave_47 : decode cX6_leave 47 = .ok (.invokevirtual 230, 3) := by decide +kernel
theorem dX6_leave_50 : decode cX6_leave 50 = .ok (.aload_n 0, 1) := by decide +kernel
theorem dX6_leave_51 : decode cX6_leave 51 = .ok (.sipush 260, 3) := by decide +kernel
theorem dX6_leave_54 : decode cX6_leave 54 = .ok (.invokevirtual 233, 3) := by decide +kernel
theorem dX6_leave_57 : decode cX6_leave 57 = .ok (.istore 5, 2) := by decide +kernel
theorem dX6_leave_59 : decode cX6_leave 59 = .ok (.iload 5, 2) := by decide +kernel
theorem dX6_leave_61 : decode cX6_leave 61 = .ok (.iload_n 2, 1) := by decide +kernel
theorem dX6_leave_62 : decode cX6_leave 62 = .ok (.if_icmp .le 8, 3) := by decide +kernel
theorem dX6_leave_65 : decode cX6_leave 65 = .ok (.iload 4, 2) := by decide +kernel
theorem dX6_leave_67 : decode cX6_leave 67 = .ok (.goto 4, 3) := by decide +kernel
theorem dX6_leave_70 : decode cX6_leave 70 = .ok (.iload_n 3, 1) := by decide +kernel
theorem dX6_leave_71 : decode cX6_leave 71 = .ok (.istore_n 3, 1) := by decide +kernel
theorem dX6_leave_72 : decode cX6_leave 72 = .ok (.iload 5, 2) := by decide +kernel
theorem dX6_leave_74 : decode cX6_leave 74 = .ok (.iload_n 2, 1) := by decide +kernel
theorem dX6_leave_75 : decode cX6_leave 75 = .ok (.if_icmp .le 8, 3) := by decide +kernel
theorem dX6_leave_78 : decode cX6_leave 78 = .ok (.iload 5, 2) := by decide +kernel
theorem dX6_leave_80 : decode cX6_leave 80 = .ok (.goto 4, 3) := by decide +kernel
theorem dX6_leave_83 : decode cX6_leave 83 = .ok (.iload_n 2, 1) := by decide +kernel
theorem dX6_leave_84 : decode cX6_leave 84 = .ok (.istore_n 2, 1) := by decide +kernel
theorem dX6_leave_85 : decode cX6_leave 85 = .ok (.iinc 4 1, 3) := by decide +kernel
theorem dX6_leave_88 : decode cX6_leave 88 = .ok (.goto (-56), 3) := by decide +kernel
theorem dX6_leave_91 : decode cX6_leave 91 = .ok (.iload_n 3, 1) := by decide +kernel
theorem dX6_leave_92 : decode cX6_leave 92 = .ok (.bipush (-4), 2) := by decide +kernel
theorem dX6_leave_94 : decode cX6_leave 94 = .ok (.if_icmp .eq 7, 3) := by decide +kernel
theorem dX6_leave_97 : decode cX6_leave 97 = .ok (.iload_n 1, 1) := by decide +kernel
theorem dX6_leave_98 : decode cX6_leave 98 = .ok (.ifCond .ne 7, 3) := by decide +kernel
theorem dX6_leave_101 : decode cX6_leave 101 = .ok (.iload_n 3, 1) := by decide +kernel
theorem dX6_leave_102 : decode cX6_leave 102 = .ok (.goto 4, 3) := by decide +kernel
theorem dX6_leave_105 : decode cX6_leave 105 = .ok (.iload_n 2, 1) := by decide +kernel
theorem dX6_leave_106 : decode cX6_leave 106 = .ok (.ireturn, 1) := by decide +kernel
theorem dX6_kindly_0 : decode cX6_kindly 0 = .ok (.aload_n 0, 1) := by decide +kernel
theorem dX6_kindly_1 : decode cX6_kindly 1 = .ok (.iload_n 1, 1) := by decide +kernel
theorem dX6_kindly_2 : decode cX6_kindly 2 = .ok (.invokevirtual 185, 3) := by decide +kernel
theorem dX6_kindly_5 : decode cX6_kindly 5 = .ok (.ifCond .eq 13, 3) := by decide +kernel
theorem dX6_kindly_8 : decode cX6_kindly 8 = .ok (.iload_n 2, 1) := by decide +kernel
theorem dX6_kindly_9 : decode cX6_kindly 9 = .ok (.i2l, 1) := by decide +kernel
theorem dX6_kindly_10 : decode cX6_kindly 10 = .ok (.lconst 0, 1) := by decide +kernel
theorem dX6_kindly_11 : decode cX6_kindly 11 = .ok (.lconst 1, 1) := by decide +kernel
theorem dX6_kindly_12 : decode cX6_kindly 12 = .ok (.invokestatic 49, 3) := by decide +kernel
theorem dX6_kindly_15 : decode cX6_kindly 15 = .ok (.ifCond .ne 5, 3) := by decide +kernel
theorem dX6_kindly_18 : decode cX6_kindly 18 = .ok (.iconst (-1), 1) := by decide +kernel
theorem dX6_kindly_19 : decode cX6_kindly 19 = .ok (.ireturn, 1) := by decide +kernel
theorem dX6_kindly_20 : decode cX6_kindly 20 = .ok (.iconst (-1), 1) := by decide +kernel
theorem dX6_kindly_21 : decode cX6_kindly 21 = .ok (.istore_n 3, 1) := by decide +kernel
theorem dX6_kindly_22 : decode cX6_kindly 22 = .ok (.iconst 0, 1) := by decide +kernel
theorem dX6_kindly_23 : decode cX6_kindly 23 = .ok (.istore 4, 2) := by decide +kernel
theorem dX6_kindly_25 : decode cX6_kindly 25 = .ok (.aload_n 0, 1) := by decide +kernel
theorem dX6_kindly_26 : decode cX6_kindly 26 = .ok (.iconst 0, 1) := by decide +kernel
theorem dX6_kindly_27 : decode cX6_kindly 27 = .ok (.sipush 260, 3) := by decide +kernel
theorem dX6_kindly_30 : decode cX6_kindly 30 = .ok (.invokevirtual 220, 3) := by decide +kernel
theorem dX6_kindly_33 : decode cX6_kindly 33 = .ok (.iconst 0, 1) := by decide +kernel
theorem dX6_kindly_34 : decode cX6_kindly 34 = .ok (.istore 5, 2) := by decide +kernel
theorem dX6_kindly_36 : decode cX6_kindly 36 = .ok (.iload 5, 2) := by decide +kernel
theorem dX6_kindly_38 : decode cX6_kindly 38 = .ok (.iconst 4, 1) := by decide +kernel
theorem dX6_kindly_39 : decode cX6_kindly 39 = .ok (.if_icmp .ge 58, 3) := by decide +kernel
theorem dX6_kindly_42 : decode cX6_kindly 42 = .ok (.aload_n 0, 1) := by decide +kernel
theorem dX6_kindly_43 : decode cX6_kindly 43 = .ok (.getfield 7, 3) := by decide +kernel
theorem dX6_kindly_46 : decode cX6_kindly 46 = .ok (.sipush 260, 3) := by decide +kernel
theorem dX6_kindly_49 : decode cX6_kindly 49 = .ok (.iload_n 1, 1) := by decide +kernel
theorem dX6_kindly_50 : decode cX6_kindly 50 = .ok (.iadd, 1) := by decide +kernel
theorem dX6_kindly_51 : decode cX6_kindly 51 = .ok (.iload 5, 2) := by decide +kernel
theorem dX6_kindly_53 : decode cX6_kindly 53 = .ok (.iastore, 1) := by decide +kernel
theorem dX6_kindly_54 : decode cX6_kindly 54 = .ok (.aload_n 0, 1) := by decide +kernel
theorem dX6_kindly_55 : decode cX6_kindly 55 = .ok (.sipush 260, 3) := by decide +kernel
theorem dX6_kindly_58 : decode cX6_kindly 58 = .ok (.invokevirtual 233, 3) := by decide +kernel
theorem dX6_kindly_61 : decode cX6_kindly 61 = .ok (.istore 6, 2) := by decide +kernel
theorem dX6_kindly_63 : decode cX6_kindly 63 = .ok (.iload 6, 2) := by decide +kernel
theorem dX6_kindly_65 : decode cX6_kindly 65 = .ok (.iload_n 3, 1) := by decide +kernel
theorem dX6_kindly_66 : decode cX6_kindly 66 = .ok (.if_icmp .le 8, 3) := by decide +kernel
theorem dX6_kindly_69 : decode cX6_kindly 69 = .ok (.iload 5, 2) := by decide +kernel
theorem dX6_kindly_71 : decode cX6_kindly 71 = .ok (.goto 5, 3) := by decide +kernel
theorem dX6_kindly_74 : decode cX6_kindly 74 = .ok (.iload 4, 2) := by decide +kernel
theorem dX6_kindly_76 : decode cX6_kindly 76 = .ok (.istore 4, 2) := by decide +kernel
theorem dX6_kindly_78 : decode cX6_kindly 78 = .ok (.iload 6, 2) := by decide +kernel
theorem dX6_kindly_80 : decode cX6_kindly 80 = .ok (.iload_n 3, 1) := by decide +kernel
theorem dX6_kindly_81 : decode cX6_kindly 81 = .ok (.if_icmp .le 8, 3) := by decide +kernel
theorem dX6_kindly_84 : decode cX6_kindly 84 = .ok (.iload 6, 2) := by decide +kernel
theorem dX6_kindly_86 : decode cX6_kindly 86 = .ok (.goto 4, 3) := by decide +kernel
theorem dX6_kindly_89 : decode cX6_kindly 89 = .ok (.iload_n 3, 1) := by decide +kernel
theorem dX6_kindly_90 : decode cX6_kindly 90 = .ok (.istore_n 3, 1) := by decide +kernel
theorem dX6_kindly_91 : decode cX6_kindly 91 = .ok (.iinc 5 1, 3) := by decide +kernel
theorem dX6_kindly_94 : decode cX6_kindly 94 = .ok (.goto (-58), 3) := by decide +kernel
theorem dX6_kindly_97 : decode cX6_kindly 97 = .ok (.iload_n 2, 1) := by decide +kernel
theorem dX6_kindly_98 : decode cX6_kindly 98 = .ok (.ifCond .ne 8, 3) := by decide +kernel
theorem dX6_kindly_101 : decode cX6_kindly 101 = .ok (.iload 4, 2) := by decide +kernel
theorem dX6_kindly_103 : decode cX6_kindly 103 = .ok (.goto 4, 3) := by decide +kernel
theorem dX6_kindly_106 : decode cX6_kindly 106 = .ok (.iload_n 3, 1) := by decide +kernel
theorem dX6_kindly_107 : decode cX6_kindly 107 = .ok (.ireturn, 1) := by decide +kernel
theorem dX6_dear_0 : decode cX6_dear 0 = .ok (.aload_n 0, 1) := by decide +kernel
theorem dX6_dear_1 : decode cX6_dear 1 = .ok (.iload_n 1, 1) := by decide +kernel
theorem dX6_dear_2 : decode cX6_dear 2 = .ok (.invokevirtual 185, 3) := by decide +kernel
theorem dX6_dear_5 : decode cX6_dear 5 = .ok (.ifCond .eq 13, 3) := by decide +kernel
theorem dX6_dear_8 : decode cX6_dear 8 = .ok (.iload_n 2, 1) := by decide +kernel
theorem dX6_dear_9 : decode cX6_dear 9 = .ok (.i2l, 1) := by decide +kernel
theorem dX6_dear_10 : decode cX6_dear 10 = .ok (.lconst 0, 1) := by decide +kernel
theorem dX6_dear_11 : decode cX6_dear 11 = .ok (.lconst 1, 1) := by decide +kernel
theorem dX6_dear_12 : decode cX6_dear 12 = .ok (.invokestatic 49, 3) := by decide +kernel
theorem dX6_dear_15 : decode cX6_dear 15 = .ok (.ifCond .ne 5, 3) := by decide +kernel
theorem dX6_dear_18 : decode cX6_dear 18 = .ok (.iconst (-1), 1) := by decide +kernel
theorem dX6_dear_19 : decode cX6_dear 19 = .ok (.ireturn, 1) := by decide +kernel
theorem dX6_dear_20 : decode cX6_dear 20 = .ok (.aload_n 0, 1) := by decide +kernel
theorem dX6_dear_21 : decode cX6_dear 21 = .ok (.iconst 0, 1) := by decide +kernel
theorem dX6_dear_22 : decode cX6_dear 22 = .ok (.iload_n 1, 1) := by decide +kernel
theorem dX6_dear_23 : decode cX6_dear 23 = .ok (.invokevirtual 189, 3) := by decide +kernel
theorem dX6_dear_26 : decode cX6_dear 26 = .ok (.istore_n 3, 1) := by decide +kernel
theorem dX6_dear_27 : decode cX6_dear 27 = .ok (.iconst 0, 1) := by decide +kernel
theorem dX6_dear_28 : decode cX6_dear 28 = .ok (.istore 4, 2) := by decide +kernel
theorem dX6_dear_30 : decode cX6_dear 30 = .ok (.bipush (-4), 2) := by decide +kernel
theorem dX6_dear_32 : decode cX6_dear 32 = .ok (.istore 5, 2) := by decide +kernel
theorem dX6_dear_34 : decode cX6_dear 34 = .ok (.iconst 0, 1) := by decide +kernel
theorem dX6_dear_35 : decode cX6_dear 35 = .ok (.istore 6, 2) := by decide +kernel
theorem dX6_dear_37 : decode cX6_dear 37 = .ok (.iload 6, 2) := by decide +kernel
theorem dX6_dear_39 : decode cX6_dear 39 = .ok (.aload_n 0, 1) := by decide +kernel
theorem dX6_dear_40 : decode cX6_dear 40 = .ok (.getfield 7, 3) := by decide +kernel
theorem dX6_dear_43 : decode cX6_dear 43 = .ok (.bipush 25, 2) := by decide +kernel
theorem dX6_dear_45 : decode cX6_dear 45 = .ok (.iaload, 1) := by decide +kernel
theorem dX6_dear_46 : decode cX6_dear 46 = .ok (.if_icmp .ge 71, 3) := by decide +kernel
theorem dX6_dear_49 : decode cX6_dear 49 = .ok (.aload_n 0, 1) := by decide +kernel
theorem dX6_dear_50 : decode cX6_dear 50 = .ok (.iconst 0, 1) := by decide +kernel
theorem dX6_dear_51 : decode cX6_dear 51 = .ok (.sipush 260, 3) := by decide +kernel
theorem dX6_dear_54 : decode cX6_dear 54 = .ok (.invokevirtual 220, 3) := by decide +kernel
theorem dX6_dear_57 : decode cX6_dear 57 = .ok (.aload_n 0, 1) := by decide +kernel
theorem dX6_dear_58 : decode cX6_dear 58 = .ok (.sipush 260, 3) := by decide +kernel
theorem dX6_dear_61 : decode cX6_dear 61 = .ok (.iload 6, 2) := by decide +kernel
theorem dX6_dear_63 : decode cX6_dear 63 = .ok (.invokevirtual 214, 3) := by decide +kernel
theorem dX6_dear_66 : decode cX6_dear 66 = .ok (.pop, 1) := by decide +kernel
theorem dX6_dear_67 : decode cX6_dear 67 = .ok (.iload_n 3, 1) := by decide +kernel
theorem dX6_dear_68 : decode cX6_dear 68 = .ok (.aload_n 0, 1) := by decide +kernel
theorem dX6_dear_69 : decode cX6_dear 69 = .ok (.sipush 260, 3) := by decide +kernel
theorem dX6_dear_72 : decode cX6_dear 72 = .ok (.iload_n 1, 1) := by decide +kernel
theorem dX6_dear_73 : decode cX6_dear 73 = .ok (.invokevirtual 189, 3) := by decide +kernel
theorem dX6_dear_76 : decode cX6_dear 76 = .ok (.isub, 1) := by decide +kernel
theorem dX6_dear_77 : decode cX6_dear 77 = .ok (.istore 7, 2) := by decide +kernel
theorem dX6_dear_79 : decode cX6_dear 79 = .ok (.iload 7, 2) := by decide +kernel
theorem dX6_dear_81 : decode cX6_dear 81 = .ok (.iload 4, 2) := by decide +kernel
theorem dX6_dear_83 : decode cX6_dear 83 = .ok (.if_icmp .le 8, 3) := by decide +kernel
theorem dX6_dear_86 : decode cX6_dear 86 = .ok (.iload 6, 2) := by decide +kernel
theorem dX6_dear_88 : decode cX6_dear 88 = .ok (.goto 5, 3) := by decide +kernel
theorem dX6_dear_91 : decode cX6_dear 91 = .ok (.iload 5, 2) := by decide +kernel
theorem dX6_dear_93 : decode cX6_dear 93 = .ok (.istore 5, 2) := by decide +kernel
theorem dX6_dear_95 : decode cX6_dear 95 = .ok (.iload 7, 2) := by decide +kernel
theorem dX6_dear_97 : decode cX6_dear 97 = .ok (.iload 4, 2) := by decide +kernel
theorem dX6_dear_99 : decode cX6_dear 99 = .ok (.if_icmp .le 8, 3) := by decide +kernel
theorem dX6_dear_102 : decode cX6_dear 102 = .ok (.iload 7, 2) := by decide +kernel
theorem dX6_dear_104 : decode cX6_dear 104 = .ok (.goto 5, 3) := by decide +kernel
theorem dX6_dear_107 : decode cX6_dear 107 = .ok (.iload 4, 2) := by decide +kernel
theorem dX6_dear_109 : decode cX6_dear 109 = .ok (.istore 4, 2) := by decide +kernel
theorem dX6_dear_111 : decode cX6_dear 111 = .ok (.iinc 6 1, 3) := by decide +kernel
theorem dX6_dear_114 : decode cX6_dear 114 = .ok (.goto (-77), 3) := by decide +kernel
theorem dX6_dear_117 : decode cX6_dear 117 = .ok (.iload 5, 2) := by decide +kernel
theorem dX6_dear_119 : decode cX6_dear 119 = .ok (.bipush (-4), 2) := by decide +kernel
theorem dX6_dear_121 : decode cX6_dear 121 = .ok (.if_icmp .eq 7, 3) := by decide +kernel
theorem dX6_dear_124 : decode cX6_dear 124 = .ok (.iload_n 2, 1) := by decide +kernel
theorem dX6_dear_125 : decode cX6_dear 125 = .ok (.ifCond .ne 8, 3) := by decide +kernel
theorem dX6_dear_128 : decode cX6_dear 128 = .ok (.iload 5, 2) := by decide +kernel
theorem dX6_dear_130 : decode cX6_dear 130 = .ok (.goto 5, 3) := by decide +kernel
theorem dX6_dear_133 : decode cX6_dear 133 = .ok (.iload 4, 2) := by decide +kernel
theorem dX6_dear_135 : decode cX6_dear 135 = .ok (.ireturn, 1) := by decide +kernel
theorem dX6_lowest_0 : decode cX6_lowest 0 = .ok (.lload_n 0, 1) := by decide +kernel
theorem dX6_lowest_1 : decode cX6_lowest 1 = .ok (.lstore 5, 2) := by decide +kernel
theorem dX6_lowest_3 : decode cX6_lowest 3 = .ok (.lload_n 2, 1) := by decide +kernel
theorem dX6_lowest_4 : decode cX6_lowest 4 = .ok (.lstore 7, 2) := by decide +kernel
theorem dX6_lowest_6 : decode cX6_lowest 6 = .ok (.lload 7, 2) := by decide +kernel
theorem dX6_lowest_8 : decode cX6_lowest 8 = .ok (.lconst 0, 1) := by decide +kernel
theorem dX6_lowest_9 : decode cX6_lowest 9 = .ok (.lcmp, 1) := by decide +kernel
theorem dX6_lowest_10 : decode cX6_lowest 10 = .ok (.ifCond .eq 21, 3) := by decide +kernel
theorem dX6_lowest_13 : decode cX6_lowest 13 = .ok (.lload 5, 2) := by decide +kernel
theorem dX6_lowest_15 : decode cX6_lowest 15 = .ok (.lload 7, 2) := by decide +kernel
theorem dX6_lowest_17 : decode cX6_lowest 17 = .ok (.lrem, 1) := by decide +kernel
theorem dX6_lowest_18 : decode cX6_lowest 18 = .ok (.lstore 9, 2) := by decide +kernel
theorem dX6_lowest_20 : decode cX6_lowest 20 = .ok (.lload 7, 2) := by decide +kernel
theorem dX6_lowest_22 : decode cX6_lowest 22 = .ok (.lstore 5, 2) := by decide +kernel
theorem dX6_lowest_24 : decode cX6_lowest 24 = .ok (.lload 9, 2) := by decide +kernel
theorem dX6_lowest_26 : decode cX6_lowest 26 = .ok (.lstore 7, 2) := by decide +kernel
theorem dX6_lowest_28 : decode cX6_lowest 28 = .ok (.goto (-22), 3) := by decide +kernel
theorem dX6_lowest_31 : decode cX6_lowest 31 = .ok (.iload 4, 2) := by decide +kernel
theorem dX6_lowest_33 : decode cX6_lowest 33 = .ok (.ifCond .ne 7, 3) := by decide +kernel
theorem dX6_lowest_36 : decode cX6_lowest 36 = .ok (.lload_n 0, 1) := by decide +kernel
theorem dX6_lowest_37 : decode cX6_lowest 37 = .ok (.goto 4, 3) := by decide +kernel
theorem dX6_lowest_40 : decode cX6_lowest 40 = .ok (.lload_n 2, 1) := by decide +kernel
theorem dX6_lowest_41 : decode cX6_lowest 41 = .ok (.lload 5, 2) := by decide +kernel
theorem dX6_lowest_43 : decode cX6_lowest 43 = .ok (.ldiv, 1) := by decide +kernel
theorem dX6_lowest_44 : decode cX6_lowest 44 = .ok (.lreturn, 1) := by decide +kernel
theorem dX6_byJams_0 : decode cX6_byJams 0 = .ok (.lconst 0, 1) := by decide +kernel
theorem dX6_byJams_1 : decode cX6_byJams 1 = .ok (.lstore 5, 2) := by decide +kernel
theorem dX6_byJams_3 : decode cX6_byJams 3 = .ok (.lconst 1, 1) := by decide +kernel
theorem dX6_byJams_4 : decode cX6_byJams 4 = .ok (.lstore 7, 2) := by decide +kernel
theorem dX6_byJams_6 : decode cX6_byJams 6 = .ok (.iconst 0, 1) := by decide +kernel
theorem dX6_byJams_7 : decode cX6_byJams 7 = .ok (.istore 9, 2) := by decide +kernel
theorem dX6_byJams_9 : decode cX6_byJams 9 = .ok (.iconst 0, 1) := by decide +kernel
theorem dX6_byJams_10 : decode cX6_byJams 10 = .ok (.istore 10, 2) := by decide +kernel
theorem dX6_byJams_12 : decode cX6_byJams 12 = .ok (.iload 10, 2) := by decide +kernel
theorem dX6_byJams_14 : decode cX6_byJams 14 = .ok (.aload_n 0, 1) := by decide +kernel
theorem dX6_byJams_15 : decode cX6_byJams 15 = .ok (.getfield 144, 3) := by decide +kernel
theorem dX6_byJams_18 : decode cX6_byJams 18 = .ok (.if_icmp .ge 60, 3) := by decide +kernel
theorem dX6_byJams_21 : decode cX6_byJams 21 = .ok (.iload 9, 2) := by decide +kernel
theorem dX6_byJams_23 : decode cX6_byJams 23 = .ok (.aload_n 0, 1) := by decide +kernel
theorem dX6_byJams_24 : decode cX6_byJams 24 = .ok (.getfield 7, 3) := by decide +kernel
theorem dX6_byJams_27 : decode cX6_byJams 27 = .ok (.bipush 15, 2) := by decide +kernel
theorem dX6_byJams_29 : decode cX6_byJams 29 = .ok (.iload 10, 2) := by decide +kernel
theorem dX6_byJams_31 : decode cX6_byJams 31 = .ok (.iadd, 1) := by decide +kernel
theorem dX6_byJams_32 : decode cX6_byJams 32 = .ok (.iaload, 1) := by decide +kernel
theorem dX6_byJams_33 : decode cX6_byJams 33 = .ok (.ifCond .le 10, 3) := by decide +kernel
theorem dX6_byJams_36 : decode cX6_byJams 36 = .ok (.iconst 1, 1) := by decide +kernel
theorem dX6_byJams_37 : decode cX6_byJams 37 = .ok (.iload 10, 2) := by decide +kernel
theorem dX6_byJams_39 : decode cX6_byJams 39 = .ok (.ishl, 1) := by decide +kernel
theorem dX6_byJams_40 : decode cX6_byJams 40 = .ok (.goto 4, 3) := by decide +kernel
theorem dX6_byJams_43 : decode cX6_byJams 43 = .ok (.iconst 0, 1) := by decide +kernel
theorem dX6_byJams_44 : decode cX6_byJams 44 = .ok (.ior, 1) := by decide +kernel
theorem dX6_byJams_45 : decode cX6_byJams 45 = .ok (.istore 9, 2) := by decide +kernel
theorem dX6_byJams_47 : decode cX6_byJams 47 = .ok (.lload 7, 2) := by decide +kernel
theorem dX6_byJams_49 : decode cX6_byJams 49 = .ok (.aload_n 0, 1) := by decide +kernel
theorem dX6_byJams_50 : decode cX6_byJams 50 = .ok (.getfield 7, 3) := by decide +kernel
theorem dX6_byJams_53 : decode cX6_byJams 53 = .ok (.bipush 15, 2) := by decide +kernel
theorem dX6_byJams_55 : decode cX6_byJams 55 = .ok (.iload 10, 2) := by decide +kernel
theorem dX6_byJams_57 : decode cX6_byJams 57 = .ok (.iadd, 1) := by decide +kernel
theorem dX6_byJams_58 : decode cX6_byJams 58 = .ok (.iaload, 1) := by decide +kernel
theorem dX6_byJams_59 : decode cX6_byJams 59 = .ok (.ifCond .le 9, 3) := by decide +kernel
theorem dX6_byJams_62 : decode cX6_byJams 62 = .ok (.ldc2_w 240, 3) := by decide +kernel
theorem dX6_byJams_65 : decode cX6_byJams 65 = .ok (.goto 4, 3) := by decide +kernel
theorem dX6_byJams_68 : decode cX6_byJams 68 = .ok (.lconst 1, 1) := by decide +kernel
theorem dX6_byJams_69 : decode cX6_byJams 69 = .ok (.lmul, 1) := by decide +kernel
theorem dX6_byJams_70 : decode cX6_byJams 70 = .ok (.lstore 7, 2) := by decide +kernel
theorem dX6_byJams_72 : decode cX6_byJams 72 = .ok (.iinc 10 1, 3) := by decide +kernel
theorem dX6_byJams_75 : decode cX6_byJams 75 = .ok (.goto (-63), 3) := by decide +kernel
theorem dX6_byJams_78 : decode cX6_byJams 78 = .ok (.iconst 0, 1) := by decide +kernel
theorem dX6_byJams_79 : decode cX6_byJams 79 = .ok (.istore 10, 2) := by decide +kernel
theorem dX6_byJams_81 : decode cX6_byJams 81 = .ok (.iload 10, 2) := by decide +kernel
theorem dX6_byJams_83 : decode cX6_byJams 83 = .ok (.bipush 32, 2) := by decide +kernel
theorem dX6_byJams_85 : decode cX6_byJams 85 = .ok (.if_icmp .ge 123, 3) := by decide +kernel
theorem dX6_byJams_88 : decode cX6_byJams 88 = .ok (.iload 10, 2) := by decide +kernel
theorem dX6_byJams_90 : decode cX6_byJams 90 = .ok (.iload 9, 2) := by decide +kernel
theorem dX6_byJams_92 : decode cX6_byJams 92 = .ok (.iconst (-1), 1) := by decide +kernel
theorem dX6_byJams_93 : decode cX6_byJams 93 = .ok (.ixor, 1) := by decide +kernel
theorem dX6_byJams_94 : decode cX6_byJams 94 = .ok (.iand, 1) := by decide +kernel
theorem dX6_byJams_95 : decode cX6_byJams 95 = .ok (.ifCond .ne 107, 3) := by decide +kernel
theorem dX6_byJams_98 : decode cX6_byJams 98 = .ok (.lconst 1, 1) := by decide +kernel
theorem dX6_byJams_99 : decode cX6_byJams 99 = .ok (.lstore 11, 2) := by decide +kernel
theorem dX6_byJams_101 : decode cX6_byJams 101 = .ok (.iconst 0, 1) := by decide +kernel
theorem dX6_byJams_102 : decode cX6_byJams 102 = .ok (.istore 13, 2) := by decide +kernel
theorem dX6_byJams_104 : decode cX6_byJams 104 = .ok (.iload 13, 2) := by decide +kernel
theorem dX6_byJams_106 : decode cX6_byJams 106 = .ok (.aload_n 0, 1) := by decide +kernel
theorem dX6_byJams_107 : decode cX6_byJams 107 = .ok (.getfield 144, 3) := by decide +kernel
theorem dX6_byJams_110 : decode cX6_byJams 110 = .ok (.if_icmp .ge 49, 3) := by decide +kernel
theorem dX6_byJams_113 : decode cX6_byJams 113 = .ok (.lload 11, 2) := by decide +kernel
theorem dX6_byJams_115 : decode cX6_byJams 115 = .ok (.iload 9, 2) := by decide +kernel
theorem dX6_byJams_117 : decode cX6_byJams 117 = .ok (.iload 13, 2) := by decide +kernel
theorem dX6_byJams_119 : decode cX6_byJams 119 = .ok (.ishr, 1) := by decide +kernel
theorem dX6_byJams_120 : decode cX6_byJams 120 = .ok (.iconst 1, 1) := by decide +kernel
theorem dX6_byJams_121 : decode cX6_byJams 121 = .ok (.iand, 1) := by decide +kernel
theorem dX6_byJams_122 : decode cX6_byJams 122 = .ok (.ifCond .ne 7, 3) := by decide +kernel
theorem dX6_byJams_125 : decode cX6_byJams 125 = .ok (.lconst 1, 1) := by decide +kernel
theorem dX6_byJams_126 : decode cX6_byJams 126 = .ok (.goto 24, 3) := by decide +kernel
theorem dX6_byJams_129 : decode cX6_byJams 129 = .ok (.iload 10, 2) := by decide +kernel
theorem dX6_byJams_131 : decode cX6_byJams 131 = .ok (.iload 13, 2) := by decide +kernel
theorem dX6_byJams_133 : decode cX6_byJams 133 = .ok (.ishr, 1) := by decide +kernel
theorem dX6_byJams_134 : decode cX6_byJams 134 = .ok (.iconst 1, 1) := by decide +kernel
theorem dX6_byJams_135 : decode cX6_byJams 135 = .ok (.iand, 1) := by decide +kernel
theorem dX6_byJams_136 : decode cX6_byJams 136 = .ok (.iconst 1, 1) := by decide +kernel
theorem dX6_byJams_137 : decode cX6_byJams 137 = .ok (.if_icmp .ne 8, 3) := by decide +kernel
theorem dX6_byJams_140 : decode cX6_byJams 140 = .ok (.iload_n 1, 1) := by decide +kernel
theorem dX6_byJams_141 : decode cX6_byJams 141 = .ok (.i2l, 1) := by decide +kernel
theorem dX6_byJams_142 : decode cX6_byJams 142 = .ok (.goto 8, 3) := by decide +kernel
theorem dX6_byJams_145 : decode cX6_byJams 145 = .ok (.bipush 10, 2) := by decide +kernel
theorem dX6_byJams_147 : decode cX6_byJams 147 = .ok (.iload_n 1, 1) := by decide +kernel
theorem dX6_byJams_148 : decode cX6_byJams 148 = .ok (.isub, 1) := by decide +kernel
theorem dX6_byJams_149 : decode cX6_byJams 149 = .ok (.i2l, 1) := by decide +kernel
theorem dX6_byJams_150 : decode cX6_byJams 150 = .ok (.lmul, 1) := by decide +kernel
theorem dX6_byJams_151 : decode cX6_byJams 151 = .ok (.lstore 11, 2) := by decide +kernel
theorem dX6_byJams_153 : decode cX6_byJams 153 = .ok (.iinc 13 1, 3) := by decide +kernel
theorem dX6_byJams_156 : decode cX6_byJams 156 = .ok (.goto (-52), 3) := by decide +kernel
theorem dX6_byJams_159 : decode cX6_byJams 159 = .ok (.aload_n 0, 1) := by decide +kernel
theorem dX6_byJams_160 : decode cX6_byJams 160 = .ok (.iload 10, 2) := by decide +kernel
theorem dX6_byJams_162 : decode cX6_byJams 162 = .ok (.putfield 156, 3) := by decide +kernel
theorem dX6_byJams_165 : decode cX6_byJams 165 = .ok (.aload_n 0, 1) := by decide +kernel
theorem dX6_byJams_166 : decode cX6_byJams 166 = .ok (.iconst 0, 1) := by decide +kernel
theorem dX6_byJams_167 : decode cX6_byJams 167 = .ok (.iload_n 2, 1) := by decide +kernel
theorem dX6_byJams_168 : decode cX6_byJams 168 = .ok (.invokevirtual 169, 3) := by decide +kernel
theorem dX6_byJams_171 : decode cX6_byJams 171 = .ok (.istore 13, 2) := by decide +kernel
theorem dX6_byJams_173 : decode cX6_byJams 173 = .ok (.lload 5, 2) := by decide +kernel
theorem dX6_byJams_175 : decode cX6_byJams 175 = .ok (.lload 11, 2) := by decide +kernel
theorem dX6_byJams_177 : decode cX6_byJams 177 = .ok (.iload_n 3, 1) := by decide +kernel
theorem dX6_byJams_178 : decode cX6_byJams 178 = .ok (.bipush (-4), 2) := by decide +kernel
theorem dX6_byJams_180 : decode cX6_byJams 180 = .ok (.if_icmp .ne 11, 3) := by decide +kernel
theorem dX6_byJams_183 : decode cX6_byJams 183 = .ok (.iload 13, 2) := by decide +kernel
theorem dX6_byJams_185 : decode cX6_byJams 185 = .ok (.invokestatic 172, 3) := by decide +kernel
theorem dX6_byJams_188 : decode cX6_byJams 188 = .ok (.goto 9, 3) := by decide +kernel
theorem dX6_byJams_191 : decode cX6_byJams 191 = .ok (.iload 13, 2) := by decide +kernel
theorem dX6_byJams_193 : decode cX6_byJams 193 = .ok (.iload_n 3, 1) := by decide +kernel
theorem dX6_byJams_194 : decode cX6_byJams 194 = .ok (.ishr, 1) := by decide +kernel
theorem dX6_byJams_195 : decode cX6_byJams 195 = .ok (.iconst 1, 1) := by decide +kernel
theorem dX6_byJams_196 : decode cX6_byJams 196 = .ok (.iand, 1) := by decide +kernel
theorem dX6_byJams_197 : decode cX6_byJams 197 = .ok (.i2l, 1) := by decide +kernel
theorem dX6_byJams_198 : decode cX6_byJams 198 = .ok (.lmul, 1) := by decide +kernel
theorem dX6_byJams_199 : decode cX6_byJams 199 = .ok (.ladd, 1) := by decide +kernel
theorem dX6_byJams_200 : decode cX6_byJams 200 = .ok (.lstore 5, 2) := by decide +kernel
theorem dX6_byJams_202 : decode cX6_byJams 202 = .ok (.iinc 10 1, 3) := by decide +kernel
theorem dX6_byJams_205 : decode cX6_byJams 205 = .ok (.goto (-124), 3) := by decide +kernel
theorem dX6_byJams_208 : decode cX6_byJams 208 = .ok (.aload_n 0, 1) := by decide +kernel
theorem dX6_byJams_209 : decode cX6_byJams 209 = .ok (.iconst 0, 1) := by decide +kernel
theorem dX6_byJams_210 : decode cX6_byJams 210 = .ok (.putfield 156, 3) := by decide +kernel
theorem dX6_byJams_213 : decode cX6_byJams 213 = .ok (.lload 5, 2) := by decide +kernel
theorem dX6_byJams_215 : decode cX6_byJams 215 = .ok (.lload 7, 2) := by decide +kernel
theorem dX6_byJams_217 : decode cX6_byJams 217 = .ok (.iload 4, 2) := by decide +kernel
theorem dX6_byJams_219 : decode cX6_byJams 219 = .ok (.invokestatic 242, 3) := by decide +kernel
theorem dX6_byJams_222 : decode cX6_byJams 222 = .ok (.lreturn, 1) := by decide +kernel
theorem dX6_luck_0 : decode cX6_luck 0 = .ok (.iload_n 1, 1) := by decide +kernel
theorem dX6_luck_1 : decode cX6_luck 1 = .ok (.i2l, 1) := by decide +kernel
theorem dX6_luck_2 : decode cX6_luck 2 = .ok (.lconst 0, 1) := by decide +kernel
theorem dX6_luck_3 : decode cX6_luck 3 = .ok (.ldc2_w 240, 3) := by decide +kernel
theorem dX6_luck_6 : decode cX6_luck 6 = .ok (.invokestatic 49, 3) := by decide +kernel
theorem dX6_luck_9 : decode cX6_luck 9 = .ok (.ifCond .eq 41, 3) := by decide +kernel
theorem dX6_luck_12 : decode cX6_luck 12 = .ok (.aload_n 0, 1) := by decide +kernel
theorem dX6_luck_13 : decode cX6_luck 13 = .ok (.iload_n 2, 1) := by decide +kernel
theorem dX6_luck_14 : decode cX6_luck 14 = .ok (.invokevirtual 185, 3) := by decide +kernel
theorem dX6_luck_17 : decode cX6_luck 17 = .ok (.ifCond .eq 33, 3) := by decide +kernel
theorem dX6_luck_20 : decode cX6_luck 20 = .ok (.iload_n 3, 1) := by decide +kernel
theorem dX6_luck_21 : decode cX6_luck 21 = .ok (.invokestatic 197, 3) := by decide +kernel
theorem dX6_luck_24 : decode cX6_luck 24 = .ok (.ifCond .eq 26, 3) := by decide +kernel
theorem dX6_luck_27 : decode cX6_luck 27 = .ok (.iload 4, 2) := by decide +kernel
theorem dX6_luck_29 : decode cX6_luck 29 = .ok (.i2l, 1) := by decide +kernel
theorem dX6_luck_30 : decode cX6_luck 30 = .ok (.lconst 0, 1) := by decide +kernel
theorem dX6_luck_31 : decode cX6_luck 31 = .ok (.lconst 1, 1) := by decide +kernel
theorem dX6_luck_32 : decode cX6_luck 32 = .ok (.invokestatic 49, 3) := by decide +kernel
theorem dX6_luck_35 : decode cX6_luck 35 = .ok (.ifCond .eq 15, 3) := by decide +kernel
theorem dX6_luck_38 : decode cX6_luck 38 = .ok (.aload_n 0, 1) := by decide +kernel
theorem dX6_luck_39 : decode cX6_luck 39 = .ok (.iload_n 1, 1) := by decide +kernel
theorem dX6_luck_40 : decode cX6_luck 40 = .ok (.iload_n 2, 1) := by decide +kernel
theorem dX6_luck_41 : decode cX6_luck 41 = .ok (.iload_n 3, 1) := by decide +kernel
theorem dX6_luck_42 : decode cX6_luck 42 = .ok (.iload 4, 2) := by decide +kernel
theorem dX6_luck_44 : decode cX6_luck 44 = .ok (.invokevirtual 246, 3) := by decide +kernel
theorem dX6_luck_47 : decode cX6_luck 47 = .ok (.goto 6, 3) := by decide +kernel
theorem dX6_luck_50 : decode cX6_luck 50 = .ok (.ldc2_w 250, 3) := by decide +kernel
theorem dX6_luck_53 : decode cX6_luck 53 = .ok (.lreturn, 1) := by decide +kernel
theorem dX6_mean_0 : decode cX6_mean 0 = .ok (.iload_n 1, 1) := by decide +kernel
theorem dX6_mean_1 : decode cX6_mean 1 = .ok (.i2l, 1) := by decide +kernel
theorem dX6_mean_2 : decode cX6_mean 2 = .ok (.lconst 0, 1) := by decide +kernel
theorem dX6_mean_3 : decode cX6_mean 3 = .ok (.ldc2_w 240, 3) := by decide +kernel
theorem dX6_mean_6 : decode cX6_mean 6 = .ok (.invokestatic 49, 3) := by decide +kernel
theorem dX6_mean_9 : decode cX6_mean 9 = .ok (.ifCond .eq 33, 3) := by decide +kernel
theorem dX6_mean_12 : decode cX6_mean 12 = .ok (.aload_n 0, 1) := by decide +kernel
theorem dX6_mean_13 : decode cX6_mean 13 = .ok (.iload_n 2, 1) := by decide +kernel
theorem dX6_mean_14 : decode cX6_mean 14 = .ok (.invokevirtual 185, 3) := by decide +kernel
theorem dX6_mean_17 : decode cX6_mean 17 = .ok (.ifCond .eq 25, 3) := by decide +kernel
theorem dX6_mean_20 : decode cX6_mean 20 = .ok (.iload_n 3, 1) := by decide +kernel
theorem dX6_mean_21 : decode cX6_mean 21 = .ok (.i2l, 1) := by decide +kernel
theorem dX6_mean_22 : decode cX6_mean 22 = .ok (.lconst 0, 1) := by decide +kernel
theorem dX6_mean_23 : decode cX6_mean 23 = .ok (.lconst 1, 1) := by decide +kernel
theorem dX6_mean_24 : decode cX6_mean 24 = .ok (.invokestatic 49, 3) := by decide +kernel
theorem dX6_mean_27 : decode cX6_mean 27 = .ok (.ifCond .eq 15, 3) := by decide +kernel
theorem dX6_mean_30 : decode cX6_mean 30 = .ok (.aload_n 0, 1) := by decide +kernel
theorem dX6_mean_31 : decode cX6_mean 31 = .ok (.iload_n 1, 1) := by decide +kernel
theorem dX6_mean_32 : decode cX6_mean 32 = .ok (.iload_n 2, 1) := by decide +kernel
theorem dX6_mean_33 : decode cX6_mean 33 = .ok (.bipush (-4), 2) := by decide +kernel
theorem dX6_mean_35 : decode cX6_mean 35 = .ok (.iload_n 3, 1) := by decide +kernel
theorem dX6_mean_36 : decode cX6_mean 36 = .ok (.invokevirtual 246, 3) := by decide +kernel
theorem dX6_mean_39 : decode cX6_mean 39 = .ok (.goto 6, 3) := by decide +kernel
theorem dX6_mean_42 : decode cX6_mean 42 = .ok (.ldc2_w 250, 3) := by decide +kernel
theorem dX6_mean_45 : decode cX6_mean 45 = .ok (.lreturn, 1) := by decide +kernel
theorem dX6_see_0 : decode cX6_see 0 = .ok (.aload_n 0, 1) := by decide +kernel
theorem dX6_see_1 : decode cX6_see 1 = .ok (.iload_n 1, 1) := by decide +kernel
theorem dX6_see_2 : decode cX6_see 2 = .ok (.invokevirtual 185, 3) := by decide +kernel
theorem dX6_see_5 : decode cX6_see 5 = .ok (.ifCond .eq 10, 3) := by decide +kernel
theorem dX6_see_8 : decode cX6_see 8 = .ok (.iload_n 2, 1) := by decide +kernel
theorem dX6_see_9 : decode cX6_see 9 = .ok (.invokestatic 197, 3) := by decide +kernel
theorem dX6_see_12 : decode cX6_see 12 = .ok (.ifCond .ne 5, 3) := by decide +kernel
theorem dX6_see_15 : decode cX6_see 15 = .ok (.iconst (-1), 1) := by decide +kernel
theorem dX6_see_16 : decode cX6_see 16 = .ok (.ireturn, 1) := by decide +kernel
theorem dX6_see_17 : decode cX6_see 17 = .ok (.aload_n 0, 1) := by decide +kernel
theorem dX6_see_18 : decode cX6_see 18 = .ok (.getfield 147, 3) := by decide +kernel
theorem dX6_see_21 : decode cX6_see 21 = .ok (.bipush 6, 2) := by decide +kernel
theorem dX6_see_23 : decode cX6_see 23 = .ok (.if_icmp .ne 6, 3) := by decide +kernel
theorem dX6_see_26 : decode cX6_see 26 = .ok (.bipush (-3), 2) := by decide +kernel
theorem dX6_see_28 : decode cX6_see 28 = .ok (.ireturn, 1) := by decide +kernel
theorem dX6_see_29 : decode cX6_see 29 = .ok (.aload_n 0, 1) := by decide +kernel
theorem dX6_see_30 : decode cX6_see 30 = .ok (.getfield 28, 3) := by decide +kernel
theorem dX6_see_33 : decode cX6_see 33 = .ok (.iconst 3, 1) := by decide +kernel
theorem dX6_see_34 : decode cX6_see 34 = .ok (.aload_n 0, 1) := by decide +kernel
theorem dX6_see_35 : decode cX6_see 35 = .ok (.getfield 147, 3) := by decide +kernel
theorem dX6_see_38 : decode cX6_see 38 = .ok (.imul, 1) := by decide +kernel
theorem dX6_see_39 : decode cX6_see 39 = .ok (.iload_n 1, 1) := by decide +kernel
theorem dX6_see_40 : decode cX6_see 40 = .ok (.iastore, 1) := by decide +kernel
theorem dX6_see_41 : decode cX6_see 41 = .ok (.aload_n 0, 1) := by decide +kernel
theorem dX6_see_42 : decode cX6_see 42 = .ok (.getfield 28, 3) := by decide +kernel
theorem dX6_see_45 : decode cX6_see 45 = .ok (.iconst 3, 1) := by decide +kernel
theorem dX6_see_46 : decode cX6_see 46 = .ok (.aload_n 0, 1) := by decide +kernel
theorem dX6_see_47 : decode cX6_see 47 = .ok (.getfield 147, 3) := by decide +kernel
theorem dX6_see_50 : decode cX6_see 50 = .ok (.imul, 1) := by decide +kernel
theorem dX6_see_51 : decode cX6_see 51 = .ok (.iconst 1, 1) := by decide +kernel
theorem dX6_see_52 : decode cX6_see 52 = .ok (.iadd, 1) := by decide +kernel
theorem dX6_see_53 : decode cX6_see 53 = .ok (.iload_n 2, 1) := by decide +kernel
theorem dX6_see_54 : decode cX6_see 54 = .ok (.iastore, 1) := by decide +kernel
theorem dX6_see_55 : decode cX6_see 55 = .ok (.aload_n 0, 1) := by decide +kernel
theorem dX6_see_56 : decode cX6_see 56 = .ok (.getfield 28, 3) := by decide +kernel
theorem dX6_see_59 : decode cX6_see 59 = .ok (.iconst 3, 1) := by decide +kernel
theorem dX6_see_60 : decode cX6_see 60 = .ok (.aload_n 0, 1) := by decide +kernel
theorem dX6_see_61 : decode cX6_see 61 = .ok (.getfield 147, 3) := by decide +kernel
theorem dX6_see_64 : decode cX6_see 64 = .ok (.imul, 1) := by decide +kernel
theorem dX6_see_65 : decode cX6_see 65 = .ok (.iconst 2, 1) := by decide +kernel
theorem dX6_see_66 : decode cX6_see 66 = .ok (.iadd, 1) := by decide +kernel
theorem dX6_see_67 : decode cX6_see 67 = .ok (.iload_n 3, 1) := by decide +kernel
theorem dX6_see_68 : decode cX6_see 68 = .ok (.ifCond .eq 7, 3) := by decide +kernel
theorem dX6_see_71 : decode cX6_see 71 = .ok (.iconst 1, 1) := by decide +kernel
theorem dX6_see_72 : decode cX6_see 72 = .ok (.goto 4, 3) := by decide +kernel
theorem dX6_see_75 : decode cX6_see 75 = .ok (.iconst 0, 1) := by decide +kernel
theorem dX6_see_76 : decode cX6_see 76 = .ok (.iastore, 1) := by decide +kernel
theorem dX6_see_77 : decode cX6_see 77 = .ok (.aload_n 0, 1) := by decide +kernel
theorem dX6_see_78 : decode cX6_see 78 = .ok (.dup, 1) := by decide +kernel
theorem dX6_see_79 : decode cX6_see 79 = .ok (.getfield 147, 3) := by decide +kernel
theorem dX6_see_82 : decode cX6_see 82 = .ok (.iconst 1, 1) := by decide +kernel
theorem dX6_see_83 : decode cX6_see 83 = .ok (.iadd, 1) := by decide +kernel
theorem dX6_see_84 : decode cX6_see 84 = .ok (.putfield 147, 3) := by decide +kernel
theorem dX6_see_87 : decode cX6_see 87 = .ok (.aload_n 0, 1) := by decide +kernel
theorem dX6_see_88 : decode cX6_see 88 = .ok (.getfield 147, 3) := by decide +kernel
theorem dX6_see_91 : decode cX6_see 91 = .ok (.ireturn, 1) := by decide +kernel
theorem dX6_forget_0 : decode cX6_forget 0 = .ok (.iload_n 1, 1) := by decide +kernel
theorem dX6_forget_1 : decode cX6_forget 1 = .ok (.i2l, 1) := by decide +kernel
theorem dX6_forget_2 : decode cX6_forget 2 = .ok (.lconst 0, 1) := by decide +kernel
theorem dX6_forget_3 : decode cX6_forget 3 = .ok (.aload_n 0, 1) := by decide +kernel
theorem dX6_forget_4 : decode cX6_forget 4 = .ok (.getfield 147, 3) := by decide +kernel
theorem dX6_forget_7 : decode cX6_forget 7 = .ok (.i2l, 1) := by decide +kernel
theorem dX6_forget_8 : decode cX6_forget 8 = .ok (.invokestatic 49, 3) := by decide +kernel
theorem dX6_forget_11 : decode cX6_forget 11 = .ok (.ifCond .ne 5, 3) := by decide +kernel
theorem dX6_forget_14 : decode cX6_forget 14 = .ok (.iconst (-1), 1) := by decide +kernel
theorem dX6_forget_15 : decode cX6_forget 15 = .ok (.ireturn, 1) := by decide +kernel
theorem dX6_forget_16 : decode cX6_forget 16 = .ok (.aload_n 0, 1) := by decide +kernel
theorem dX6_forget_17 : decode cX6_forget 17 = .ok (.getfield 147, 3) := by decide +kernel
theorem dX6_forget_20 : decode cX6_forget 20 = .ok (.istore_n 2, 1) := by decide +kernel
theorem dX6_forget_21 : decode cX6_forget 21 = .ok (.aload_n 0, 1) := by decide +kernel
theorem dX6_forget_22 : decode cX6_forget 22 = .ok (.iload_n 1, 1) := by decide +kernel
theorem dX6_forget_23 : decode cX6_forget 23 = .ok (.putfield 147, 3) := by decide +kernel
theorem dX6_forget_26 : decode cX6_forget 26 = .ok (.iload_n 2, 1) := by decide +kernel
theorem dX6_forget_27 : decode cX6_forget 27 = .ok (.ireturn, 1) := by decide +kernel
theorem dX6_isAsSeen_0 : decode cX6_isAsSeen 0 = .ok (.iconst 1, 1) := by decide +kernel
theorem dX6_isAsSeen_1 : decode cX6_isAsSeen 1 = .ok (.istore_n 2, 1) := by decide +kernel
theorem dX6_isAsSeen_2 : decode cX6_isAsSeen 2 = .ok (.iconst 0, 1) := by decide +kernel
theorem dX6_isAsSeen_3 : decode cX6_isAsSeen 3 = .ok (.istore_n 3, 1) := by decide +kernel
theorem dX6_isAsSeen_4 : decode cX6_isAsSeen 4 = .ok (.iload_n 3, 1) := by decide +kernel
theorem dX6_isAsSeen_5 : decode cX6_isAsSeen 5 = .ok (.aload_n 0, 1) := by decide +kernel
theorem dX6_isAsSeen_6 : decode cX6_isAsSeen 6 = .ok (.getfield 147, 3) := by decide +kernel
theorem dX6_isAsSeen_9 : decode cX6_isAsSeen 9 = .ok (.if_icmp .ge 58, 3) := by decide +kernel
theorem dX6_isAsSeen_12 : decode cX6_isAsSeen 12 = .ok (.iload_n 2, 1) := by decide +kernel
theorem dX6_isAsSeen_13 : decode cX6_isAsSeen 13 = .ok (.ifCond .eq 46, 3) := by decide +kernel
theorem dX6_isAsSeen_16 : decode cX6_isAsSeen 16 = .ok (.aload_n 0, 1) := by decide +kernel
theorem dX6_isAsSeen_17 : decode cX6_isAsSeen 17 = .ok (.iload_n 1, 1) := by decide +kernel
theorem dX6_isAsSeen_18 : decode cX6_isAsSeen 18 = .ok (.aload_n 0, 1) := by decide +kernel
theorem dX6_isAsSeen_19 : decode cX6_isAsSeen 19 = .ok (.getfield 28, 3) := by decide +kernel
theorem dX6_isAsSeen_22 : decode cX6_isAsSeen 22 = .ok (.iconst 3, 1) := by decide +kernel
theorem dX6_isAsSeen_23 : decode cX6_isAsSeen 23 = .ok (.iload_n 3, 1) := by decide +kernel
theorem dX6_isAsSeen_24 : decode cX6_isAsSeen 24 = .ok (.imul, 1) := by decide +kernel
theorem dX6_isAsSeen_25 : decode cX6_isAsSeen 25 = .ok (.iaload, 1) := by decide +kernel
theorem dX6_isAsSeen_26 : decode cX6_isAsSeen 26 = .ok (.invokevirtual 169, 3) := by decide +kernel
theorem dX6_isAsSeen_29 : decode cX6_isAsSeen 29 = .ok (.aload_n 0, 1) := by decide +kernel
theorem dX6_isAsSeen_30 : decode cX6_isAsSeen 30 = .ok (.getfield 28, 3) := by decide +kernel
theorem dX6_isAsSeen_33 : decode cX6_isAsSeen 33 = .ok (.iconst 3, 1) := by decide +kernel
theorem dX6_isAsSeen_34 : decode cX6_isAsSeen 34 = .ok (.iload_n 3, 1) := by decide +kernel
theorem dX6_isAsSeen_35 : decode cX6_isAsSeen 35 = .ok (.imul, 1) := by decide +kernel
theorem dX6_isAsSeen_36 : decode cX6_isAsSeen 36 = .ok (.iconst 1, 1) := by decide +kernel
theorem dX6_isAsSeen_37 : decode cX6_isAsSeen 37 = .ok (.iadd, 1) := by decide +kernel
theorem dX6_isAsSeen_38 : decode cX6_isAsSeen 38 = .ok (.iaload, 1) := by decide +kernel
theorem dX6_isAsSeen_39 : decode cX6_isAsSeen 39 = .ok (.ishr, 1) := by decide +kernel
theorem dX6_isAsSeen_40 : decode cX6_isAsSeen 40 = .ok (.iconst 1, 1) := by decide +kernel
theorem dX6_isAsSeen_41 : decode cX6_isAsSeen 41 = .ok (.iand, 1) := by decide +kernel
theorem dX6_isAsSeen_42 : decode cX6_isAsSeen 42 = .ok (.aload_n 0, 1) := by decide +kernel
theorem dX6_isAsSeen_43 : decode cX6_isAsSeen 43 = .ok (.getfield 28, 3) := by decide +kernel
theorem dX6_isAsSeen_46 : decode cX6_isAsSeen 46 = .ok (.iconst 3, 1) := by decide +kernel
theorem dX6_isAsSeen_47 : decode cX6_isAsSeen 47 = .ok (.iload_n 3, 1) := by decide +kernel
theorem dX6_isAsSeen_48 : decode cX6_isAsSeen 48 = .ok (.imul, 1) := by decide +kernel
theorem dX6_isAsSeen_49 : decode cX6_isAsSeen 49 = .ok (.iconst 2, 1) := by decide +kernel
theorem dX6_isAsSeen_50 : decode cX6_isAsSeen 50 = .ok (.iadd, 1) := by decide +kernel
theorem dX6_isAsSeen_51 : decode cX6_isAsSeen 51 = .ok (.iaload, 1) := by decide +kernel
theorem dX6_isAsSeen_52 : decode cX6_isAsSeen 52 = .ok (.if_icmp .ne 7, 3) := by decide +kernel
theorem dX6_isAsSeen_55 : decode cX6_isAsSeen 55 = .ok (.iconst 1, 1) := by decide +kernel
theorem dX6_isAsSeen_56 : decode cX6_isAsSeen 56 = .ok (.goto 4, 3) := by decide +kernel
theorem dX6_isAsSeen_59 : decode cX6_isAsSeen 59 = .ok (.iconst 0, 1) := by decide +kernel
theorem dX6_isAsSeen_60 : decode cX6_isAsSeen 60 = .ok (.istore_n 2, 1) := by decide +kernel
theorem dX6_isAsSeen_61 : decode cX6_isAsSeen 61 = .ok (.iinc 3 1, 3) := by decide +kernel
theorem dX6_isAsSeen_64 : decode cX6_isAsSeen 64 = .ok (.goto (-60), 3) := by decide +kernel
theorem dX6_isAsSeen_67 : decode cX6_isAsSeen 67 = .ok (.iload_n 2, 1) := by decide +kernel
theorem dX6_isAsSeen_68 : decode cX6_isAsSeen 68 = .ok (.ireturn, 1) := by decide +kernel
theorem dX6_kinds_0 : decode cX6_kinds 0 = .ok (.aload_n 0, 1) := by decide +kernel
theorem dX6_kinds_1 : decode cX6_kinds 1 = .ok (.iload_n 1, 1) := by decide +kernel
theorem dX6_kinds_2 : decode cX6_kinds 2 = .ok (.invokevirtual 185, 3) := by decide +kernel
theorem dX6_kinds_5 : decode cX6_kinds 5 = .ok (.ifCond .ne 5, 3) := by decide +kernel
theorem dX6_kinds_8 : decode cX6_kinds 8 = .ok (.iconst (-1), 1) := by decide +kernel
theorem dX6_kinds_9 : decode cX6_kinds 9 = .ok (.ireturn, 1) := by decide +kernel
theorem dX6_kinds_10 : decode cX6_kinds 10 = .ok (.iconst 0, 1) := by decide +kernel
theorem dX6_kinds_11 : decode cX6_kinds 11 = .ok (.istore_n 2, 1) := by decide +kernel
theorem dX6_kinds_12 : decode cX6_kinds 12 = .ok (.aload_n 0, 1) := by decide +kernel
theorem dX6_kinds_13 : decode cX6_kinds 13 = .ok (.iconst 0, 1) := by decide +kernel
theorem dX6_kinds_14 : decode cX6_kinds 14 = .ok (.sipush 260, 3) := by decide +kernel
theorem dX6_kinds_17 : decode cX6_kinds 17 = .ok (.invokevirtual 220, 3) := by decide +kernel
theorem dX6_kinds_20 : decode cX6_kinds 20 = .ok (.iconst 0, 1) := by decide +kernel
theorem dX6_kinds_21 : decode cX6_kinds 21 = .ok (.istore_n 3, 1) := by decide +kernel
theorem dX6_kinds_22 : decode cX6_kinds 22 = .ok (.iload_n 3, 1) := by decide +kernel
theorem dX6_kinds_23 : decode cX6_kinds 23 = .ok (.iconst 4, 1) := by decide +kernel
theorem dX6_kinds_24 : decode cX6_kinds 24 = .ok (.if_icmp .ge 40, 3) := by decide +kernel
theorem dX6_kinds_27 : decode cX6_kinds 27 = .ok (.aload_n 0, 1) := by decide +kernel
theorem dX6_kinds_28 : decode cX6_kinds 28 = .ok (.getfield 7, 3) := by decide +kernel
theorem dX6_kinds_31 : decode cX6_kinds 31 = .ok (.sipush 260, 3) := by decide +kernel
theorem dX6_kinds_34 : decode cX6_kinds 34 = .ok (.iload_n 1, 1) := by decide +kernel
theorem dX6_kinds_35 : decode cX6_kinds 35 = .ok (.iadd, 1) := by decide +kernel
theorem dX6_kinds_36 : decode cX6_kinds 36 = .ok (.iload_n 3, 1) := by decide +kernel
theorem dX6_kinds_37 : decode cX6_kinds 37 = .ok (.iastore, 1) := by decide +kernel
theorem dX6_kinds_38 : decode cX6_kinds 38 = .ok (.iload_n 2, 1) := by decide +kernel
theorem dX6_kinds_39 : decode cX6_kinds 39 = .ok (.aload_n 0, 1) := by decide +kernel
theorem dX6_kinds_40 : decode cX6_kinds 40 = .ok (.sipush 260, 3) := by decide +kernel
theorem dX6_kinds_43 : decode cX6_kinds 43 = .ok (.invokevirtual 252, 3) := by decide +kernel
theorem dX6_kinds_46 : decode cX6_kinds 46 = .ok (.ifCond .eq 9, 3) := by decide +kernel
theorem dX6_kinds_49 : decode cX6_kinds 49 = .ok (.iconst 1, 1) := by decide +kernel
theorem dX6_kinds_50 : decode cX6_kinds 50 = .ok (.iload_n 3, 1) := by decide +kernel
theorem dX6_kinds_51 : decode cX6_kinds 51 = .ok (.ishl, 1) := by decide +kernel
theorem dX6_kinds_52 : decode cX6_kinds 52 = .ok (.goto 4, 3) := by decide +kernel
theorem dX6_kinds_55 : decode cX6_kinds 55 = .ok (.iconst 0, 1) := by decide +kernel
theorem dX6_kinds_56 : decode cX6_kinds 56 = .ok (.ior, 1) := by decide +kernel
theorem dX6_kinds_57 : decode cX6_kinds 57 = .ok (.istore_n 2, 1) := by decide +kernel
theorem dX6_kinds_58 : decode cX6_kinds 58 = .ok (.iinc 3 1, 3) := by decide +kernel
theorem dX6_kinds_61 : decode cX6_kinds 61 = .ok (.goto (-39), 3) := by decide +kernel
theorem dX6_kinds_64 : decode cX6_kinds 64 = .ok (.iload_n 2, 1) := by decide +kernel
theorem dX6_kinds_65 : decode cX6_kinds 65 = .ok (.ireturn, 1) := by decide +kernel
theorem dX6_wallsOf_0 : decode cX6_wallsOf 0 = .ok (.iconst 0, 1) := by decide +kernel
theorem dX6_wallsOf_1 : decode cX6_wallsOf 1 = .ok (.istore_n 2, 1) := by decide +kernel
theorem dX6_wallsOf_2 : decode cX6_wallsOf 2 = .ok (.aload_n 0, 1) := by decide +kernel
theorem dX6_wallsOf_3 : decode cX6_wallsOf 3 = .ok (.iconst 0, 1) := by decide +kernel
theorem dX6_wallsOf_4 : decode cX6_wallsOf 4 = .ok (.sipush 260, 3) := by decide +kernel
theorem dX6_wallsOf_7 : decode cX6_wallsOf 7 = .ok (.invokevirtual 220, 3) := by decide +kernel
theorem dX6_wallsOf_10 : decode cX6_wallsOf 10 = .ok (.iconst 0, 1) := by decide +kernel
theorem dX6_wallsOf_11 : decode cX6_wallsOf 11 = .ok (.istore_n 3, 1) := by decide +kernel
theorem dX6_wallsOf_12 : decode cX6_wallsOf 12 = .ok (.iload_n 3, 1) := by decide +kernel
theorem dX6_wallsOf_13 : decode cX6_wallsOf 13 = .ok (.aload_n 0, 1) := by decide +kernel
theorem dX6_wallsOf_14 : decode cX6_wallsOf 14 = .ok (.getfield 7, 3) := by decide +kernel
theorem dX6_wallsOf_17 : decode cX6_wallsOf 17 = .ok (.bipush 25, 2) := by decide +kernel
theorem dX6_wallsOf_19 : decode cX6_wallsOf 19 = .ok (.iaload, 1) := by decide +kernel
theorem dX6_wallsOf_20 : decode cX6_wallsOf 20 = .ok (.if_icmp .ge 101, 3) := by decide +kernel
theorem dX6_wallsOf_23 : decode cX6_wallsOf 23 = .ok (.aload_n 0, 1) := by decide +kernel
theorem dX6_wallsOf_24 : decode cX6_wallsOf 24 = .ok (.iconst 0, 1) := by decide +kernel
theorem dX6_wallsOf_25 : decode cX6_wallsOf 25 = .ok (.iload_n 3, 1) := by decide +kernel
theorem dX6_wallsOf_26 : decode cX6_wallsOf 26 = .ok (.invokevirtual 152, 3) := by decide +kernel
theorem dX6_wallsOf_29 : decode cX6_wallsOf 29 = .ok (.istore 4, 2) := by decide +kernel
theorem dX6_wallsOf_31 : decode cX6_wallsOf 31 = .ok (.iload 4, 2) := by decide +kernel
theorem dX6_wallsOf_33 : decode cX6_wallsOf 33 = .ok (.bipush (-4), 2) := by decide +kernel
theorem dX6_wallsOf_35 : decode cX6_wallsOf 35 = .ok (.if_icmp .eq 9, 3) := by decide +kernel
theorem dX6_wallsOf_38 : decode cX6_wallsOf 38 = .ok (.iload 4, 2) := by decide +kernel
theorem dX6_wallsOf_40 : decode cX6_wallsOf 40 = .ok (.iload_n 1, 1) := by decide +kernel
theorem dX6_wallsOf_41 : decode cX6_wallsOf 41 = .ok (.if_icmp .ne 74, 3) := by decide +kernel
theorem dX6_wallsOf_44 : decode cX6_wallsOf 44 = .ok (.aload_n 0, 1) := by decide +kernel
theorem dX6_wallsOf_45 : decode cX6_wallsOf 45 = .ok (.getfield 7, 3) := by decide +kernel
theorem dX6_wallsOf_48 : decode cX6_wallsOf 48 = .ok (.sipush 275, 3) := by decide +kernel
theorem dX6_wallsOf_51 : decode cX6_wallsOf 51 = .ok (.iload_n 1, 1) := by decide +kernel
theorem dX6_wallsOf_52 : decode cX6_wallsOf 52 = .ok (.iadd, 1) := by decide +kernel
theorem dX6_wallsOf_53 : decode cX6_wallsOf 53 = .ok (.iload_n 3, 1) := by decide +kernel
theorem dX6_wallsOf_54 : decode cX6_wallsOf 54 = .ok (.iconst 1, 1) := by decide +kernel
theorem dX6_wallsOf_55 : decode cX6_wallsOf 55 = .ok (.iadd, 1) := by decide +kernel
theorem dX6_wallsOf_56 : decode cX6_wallsOf 56 = .ok (.iastore, 1) := by decide +kernel
theorem dX6_wallsOf_57 : decode cX6_wallsOf 57 = .ok (.iload_n 2, 1) := by decide +kernel
theorem dX6_wallsOf_58 : decode cX6_wallsOf 58 = .ok (.aload_n 0, 1) := by decide +kernel
theorem dX6_wallsOf_59 : decode cX6_wallsOf 59 = .ok (.sipush 260, 3) := by decide +kernel
theorem dX6_wallsOf_62 : decode cX6_wallsOf 62 = .ok (.invokevirtual 252, 3) := by decide +kernel
theorem dX6_wallsOf_65 : decode cX6_wallsOf 65 = .ok (.ifCond .eq 9, 3) := by decide +kernel
theorem dX6_wallsOf_68 : decode cX6_wallsOf 68 = .ok (.iconst 1, 1) := by decide +kernel
theorem dX6_wallsOf_69 : decode cX6_wallsOf 69 = .ok (.iload_n 3, 1) := by decide +kernel
theorem dX6_wallsOf_70 : decode cX6_wallsOf 70 = .ok (.ishl, 1) := by decide +kernel
theorem dX6_wallsOf_71 : decode cX6_wallsOf 71 = .ok (.goto 4, 3) := by decide +kernel
theorem dX6_wallsOf_74 : decode cX6_wallsOf 74 = .ok (.iconst 0, 1) := by decide +kernel
theorem dX6_wallsOf_75 : decode cX6_wallsOf 75 = .ok (.ior, 1) := by decide +kernel
theorem dX6_wallsOf_76 : decode cX6_wallsOf 76 = .ok (.istore_n 2, 1) := by decide +kernel
theorem dX6_wallsOf_77 : decode cX6_wallsOf 77 = .ok (.iconst 0, 1) := by decide +kernel
theorem dX6_wallsOf_78 : decode cX6_wallsOf 78 = .ok (.istore 5, 2) := by decide +kernel
theorem dX6_wallsOf_80 : decode cX6_wallsOf 80 = .ok (.iload 5, 2) := by decide +kernel
theorem dX6_wallsOf_82 : decode cX6_wallsOf 82 = .ok (.aload_n 0, 1) := by decide +kernel
theorem dX6_wallsOf_83 : decode cX6_wallsOf 83 = .ok (.getfield 144, 3) := by decide +kernel
theorem dX6_wallsOf_86 : decode cX6_wallsOf 86 = .ok (.if_icmp .ge 29, 3) := by decide +kernel
theorem dX6_wallsOf_89 : decode cX6_wallsOf 89 = .ok (.aload_n 0, 1) := by decide +kernel
theorem dX6_wallsOf_90 : decode cX6_wallsOf 90 = .ok (.getfield 31, 3) := by decide +kernel
theorem dX6_wallsOf_93 : decode cX6_wallsOf 93 = .ok (.iconst 5, 1) := by decide +kernel
theorem dX6_wallsOf_94 : decode cX6_wallsOf 94 = .ok (.iload_n 3, 1) := by decide +kernel
theorem dX6_wallsOf_95 : decode cX6_wallsOf 95 = .ok (.imul, 1) := by decide +kernel
theorem dX6_wallsOf_96 : decode cX6_wallsOf 96 = .ok (.iload 5, 2) := by decide +kernel
theorem dX6_wallsOf_98 : decode cX6_wallsOf 98 = .ok (.iadd, 1) := by decide +kernel
theorem dX6_wallsOf_99 : decode cX6_wallsOf 99 = .ok (.aload_n 0, 1) := by decide +kernel
theorem dX6_wallsOf_100 : decode cX6_wallsOf 100 = .ok (.sipush 260, 3) := by decide +kernel
theorem dX6_wallsOf_103 : decode cX6_wallsOf 103 = .ok (.iload 5, 2) := by decide +kernel
theorem dX6_wallsOf_105 : decode cX6_wallsOf 105 = .ok (.invokevirtual 169, 3) := by decide +kernel
theorem dX6_wallsOf_108 : decode cX6_wallsOf 108 = .ok (.iastore, 1) := by decide +kernel
theorem dX6_wallsOf_109 : decode cX6_wallsOf 109 = .ok (.iinc 5 1, 3) := by decide +kernel
theorem dX6_wallsOf_112 : decode cX6_wallsOf 112 = .ok (.goto (-32), 3) := by decide +kernel
theorem dX6_wallsOf_115 : decode cX6_wallsOf 115 = .ok (.iinc 3 1, 3) := by decide +kernel
theorem dX6_wallsOf_118 : decode cX6_wallsOf 118 = .ok (.goto (-106), 3) := by decide +kernel
theorem dX6_wallsOf_121 : decode cX6_wallsOf 121 = .ok (.iload_n 2, 1) := by decide +kernel
theorem dX6_wallsOf_122 : decode cX6_wallsOf 122 = .ok (.ireturn, 1) := by decide +kernel
theorem dX6_walls_0 : decode cX6_walls 0 = .ok (.aload_n 0, 1) := by decide +kernel
theorem dX6_walls_1 : decode cX6_walls 1 = .ok (.iload_n 1, 1) := by decide +kernel
theorem dX6_walls_2 : decode cX6_walls 2 = .ok (.invokevirtual 185, 3) := by decide +kernel
theorem dX6_walls_5 : decode cX6_walls 5 = .ok (.ifCond .eq 11, 3) := by decide +kernel
theorem dX6_walls_8 : decode cX6_walls 8 = .ok (.aload_n 0, 1) := by decide +kernel
theorem dX6_walls_9 : decode cX6_walls 9 = .ok (.iload_n 1, 1) := by decide +kernel
theorem dX6_walls_10 : decode cX6_walls 10 = .ok (.invokevirtual 255, 3) := by decide +kernel
theorem dX6_walls_13 : decode cX6_walls 13 = .ok (.goto 4, 3) := by decide +kernel
theorem dX6_walls_16 : decode cX6_walls 16 = .ok (.iconst (-1), 1) := by decide +kernel
theorem dX6_walls_17 : decode cX6_walls 17 = .ok (.ireturn, 1) := by decide +kernel
theorem dX6_ask_0 : decode cX6_ask 0 = .ok (.aload_n 0, 1) := by decide +kernel
theorem dX6_ask_1 : decode cX6_ask 1 = .ok (.iload_n 1, 1) := by decide +kernel
theorem dX6_ask_2 : decode cX6_ask 2 = .ok (.invokevirtual 185, 3) := by decide +kernel
theorem dX6_ask_5 : decode cX6_ask 5 = .ok (.ifCond .eq 13, 3) := by decide +kernel
theorem dX6_ask_8 : decode cX6_ask 8 = .ok (.iload_n 2, 1) := by decide +kernel
theorem dX6_ask_9 : decode cX6_ask 9 = .ok (.i2l, 1) := by decide +kernel
theorem dX6_ask_10 : decode cX6_ask 10 = .ok (.lconst 0, 1) := by decide +kernel
theorem dX6_ask_11 : decode cX6_ask 11 = .ok (.lconst 1, 1) := by decide +kernel
theorem dX6_ask_12 : decode cX6_ask 12 = .ok (.invokestatic 49, 3) := by decide +kernel
theorem dX6_ask_15 : decode cX6_ask 15 = .ok (.ifCond .ne 5, 3) := by decide +kernel
theorem dX6_ask_18 : decode cX6_ask 18 = .ok (.iconst (-1), 1) := by decide +kernel
theorem dX6_ask_19 : decode cX6_ask 19 = .ok (.ireturn, 1) := by decide +kernel
theorem dX6_ask_20 : decode cX6_ask 20 = .ok (.aload_n 0, 1) := by decide +kernel
theorem dX6_ask_21 : decode cX6_ask 21 = .ok (.iload_n 1, 1) := by decide +kernel
theorem dX6_ask_22 : decode cX6_ask 22 = .ok (.invokevirtual 255, 3) := by decide +kernel
theorem dX6_ask_25 : decode cX6_ask 25 = .ok (.istore_n 3, 1) := by decide +kernel
theorem dX6_ask_26 : decode cX6_ask 26 = .ok (.iload_n 3, 1) := by decide +kernel
theorem dX6_ask_27 : decode cX6_ask 27 = .ok (.invokestatic 172, 3) := by decide +kernel
theorem dX6_ask_30 : decode cX6_ask 30 = .ok (.istore 4, 2) := by decide +kernel
theorem dX6_ask_32 : decode cX6_ask 32 = .ok (.iload 4, 2) := by decide +kernel
theorem dX6_ask_34 : decode cX6_ask 34 = .ok (.istore 5, 2) := by decide +kernel
theorem dX6_ask_36 : decode cX6_ask 36 = .ok (.bipush (-4), 2) := by decide +kernel
theorem dX6_ask_38 : decode cX6_ask 38 = .ok (.istore 6, 2) := by decide +kernel
theorem dX6_ask_40 : decode cX6_ask 40 = .ok (.iconst 0, 1) := by decide +kernel
theorem dX6_ask_41 : decode cX6_ask 41 = .ok (.istore 7, 2) := by decide +kernel
theorem dX6_ask_43 : decode cX6_ask 43 = .ok (.iload 7, 2) := by decide +kernel
theorem dX6_ask_45 : decode cX6_ask 45 = .ok (.aload_n 0, 1) := by decide +kernel
theorem dX6_ask_46 : decode cX6_ask 46 = .ok (.getfield 144, 3) := by decide +kernel
theorem dX6_ask_49 : decode cX6_ask 49 = .ok (.if_icmp .ge 145, 3) := by decide +kernel
theorem dX6_ask_52 : decode cX6_ask 52 = .ok (.iconst 0, 1) := by decide +kernel
theorem dX6_ask_53 : decode cX6_ask 53 = .ok (.istore 8, 2) := by decide +kernel
theorem dX6_ask_55 : decode cX6_ask 55 = .ok (.iload 8, 2) := by decide +kernel
theorem dX6_ask_57 : decode cX6_ask 57 = .ok (.bipush 8, 2) := by decide +kernel
theorem dX6_ask_59 : decode cX6_ask 59 = .ok (.if_icmp .ge 129, 3) := by decide +kernel
theorem dX6_ask_62 : decode cX6_ask 62 = .ok (.iconst 0, 1) := by decide +kernel
theorem dX6_ask_63 : decode cX6_ask 63 = .ok (.istore 9, 2) := by decide +kernel
theorem dX6_ask_65 : decode cX6_ask 65 = .ok (.iconst 0, 1) := by decide +kernel
theorem dX6_ask_66 : decode cX6_ask 66 = .ok (.istore 10, 2) := by decide +kernel
theorem dX6_ask_68 : decode cX6_ask 68 = .ok (.iload 10, 2) := by decide +kernel
theorem dX6_ask_70 : decode cX6_ask 70 = .ok (.aload_n 0, 1) := by decide +kernel
theorem dX6_ask_71 : decode cX6_ask 71 = .ok (.getfield 7, 3) := by decide +kernel
theorem dX6_ask_74 : decode cX6_ask 74 = .ok (.bipush 25, 2) := by decide +kernel
theorem dX6_ask_76 : decode cX6_ask 76 = .ok (.iaload, 1) := by decide +kernel
theorem dX6_ask_77 : decode cX6_ask 77 = .ok (.if_icmp .ge 45, 3) := by decide +kernel
theorem dX6_ask_80 : decode cX6_ask 80 = .ok (.iload 9, 2) := by decide +kernel
theorem dX6_ask_82 : decode cX6_ask 82 = .ok (.iload_n 3, 1) := by decide +kernel
theorem dX6_ask_83 : decode cX6_ask 83 = .ok (.iload 10, 2) := by decide +kernel
theorem dX6_ask_85 : decode cX6_ask 85 = .ok (.ishr, 1) := by decide +kernel
theorem dX6_ask_86 : decode cX6_ask 86 = .ok (.iconst 1, 1) := by decide +kernel
theorem dX6_ask_87 : decode cX6_ask 87 = .ok (.iand, 1) := by decide +kernel
theorem dX6_ask_88 : decode cX6_ask 88 = .ok (.iconst 1, 1) := by decide +kernel
theorem dX6_ask_89 : decode cX6_ask 89 = .ok (.if_icmp .ne 23, 3) := by decide +kernel
theorem dX6_ask_92 : decode cX6_ask 92 = .ok (.aload_n 0, 1) := by decide +kernel
theorem dX6_ask_93 : decode cX6_ask 93 = .ok (.getfield 31, 3) := by decide +kernel
theorem dX6_ask_96 : decode cX6_ask 96 = .ok (.iconst 5, 1) := by decide +kernel
theorem dX6_ask_97 : decode cX6_ask 97 = .ok (.iload 10, 2) := by decide +kernel
theorem dX6_ask_99 : decode cX6_ask 99 = .ok (.imul, 1) := by decide +kernel
theorem dX6_ask_100 : decode cX6_ask 100 = .ok (.iload 7, 2) := by decide +kernel
theorem dX6_ask_102 : decode cX6_ask 102 = .ok (.iadd, 1) := by decide +kernel
theorem dX6_ask_103 : decode cX6_ask 103 = .ok (.iaload, 1) := by decide +kernel
theorem dX6_ask_104 : decode cX6_ask 104 = .ok (.iload 8, 2) := by decide +kernel
theorem dX6_ask_106 : decode cX6_ask 106 = .ok (.ishr, 1) := by decide +kernel
theorem dX6_ask_107 : decode cX6_ask 107 = .ok (.iconst 1, 1) := by decide +kernel
theorem dX6_ask_108 : decode cX6_ask 108 = .ok (.iand, 1) := by decide +kernel
theorem dX6_ask_109 : decode cX6_ask 109 = .ok (.goto 4, 3) := by decide +kernel
theorem dX6_ask_112 : decode cX6_ask 112 = .ok (.iconst 0, 1) := by decide +kernel
theorem dX6_ask_113 : decode cX6_ask 113 = .ok (.iadd, 1) := by decide +kernel
theorem dX6_ask_114 : decode cX6_ask 114 = .ok (.istore 9, 2) := by decide +kernel
theorem dX6_ask_116 : decode cX6_ask 116 = .ok (.iinc 10 1, 3) := by decide +kernel
theorem dX6_ask_119 : decode cX6_ask 119 = .ok (.goto (-51), 3) := by decide +kernel
theorem dX6_ask_122 : decode cX6_ask 122 = .ok (.iload 9, 2) := by decide +kernel
theorem dX6_ask_124 : decode cX6_ask 124 = .ok (.iload 4, 2) := by decide +kernel
theorem dX6_ask_126 : decode cX6_ask 126 = .ok (.iload 9, 2) := by decide +kernel
theorem dX6_ask_128 : decode cX6_ask 128 = .ok (.isub, 1) := by decide +kernel
theorem dX6_ask_129 : decode cX6_ask 129 = .ok (.if_icmp .le 8, 3) := by decide +kernel
theorem dX6_ask_132 : decode cX6_ask 132 = .ok (.iload 9, 2) := by decide +kernel
theorem dX6_ask_134 : decode cX6_ask 134 = .ok (.goto 8, 3) := by decide +kernel
theorem dX6_ask_137 : decode cX6_ask 137 = .ok (.iload 4, 2) := by decide +kernel
theorem dX6_ask_139 : decode cX6_ask 139 = .ok (.iload 9, 2) := by decide +kernel
theorem dX6_ask_141 : decode cX6_ask 141 = .ok (.isub, 1) := by decide +kernel
theorem dX6_ask_142 : decode cX6_ask 142 = .ok (.istore 10, 2) := by decide +kernel
theorem dX6_ask_144 : decode cX6_ask 144 = .ok (.iload 10, 2) := by decide +kernel
theorem dX6_ask_146 : decode cX6_ask 146 = .ok (.iload 5, 2) := by decide +kernel
theorem dX6_ask_148 : decode cX6_ask 148 = .ok (.if_icmp .ge 14, 3) := by decide +kernel
theorem dX6_ask_151 : decode cX6_ask 151 = .ok (.bipush 10, 2) := by decide +kernel
theorem dX6_ask_153 : decode cX6_ask 153 = .ok (.iload 7, 2) := by decide +kernel
theorem dX6_ask_155 : decode cX6_ask 155 = .ok (.imul, 1) := by decide +kernel
theorem dX6_ask_156 : decode cX6_ask 156 = .ok (.iload 8, 2) := by decide +kernel
theorem dX6_ask_158 : decode cX6_ask 158 = .ok (.iadd, 1) := by decide +kernel
theorem dX6_ask_159 : decode cX6_ask 159 = .ok (.goto 5, 3) := by decide +kernel
theorem dX6_ask_162 : decode cX6_ask 162 = .ok (.iload 6, 2) := by decide +kernel
theorem dX6_ask_164 : decode cX6_ask 164 = .ok (.istore 6, 2) := by decide +kernel
theorem dX6_ask_166 : decode cX6_ask 166 = .ok (.iload 10, 2) := by decide +kernel
theorem dX6_ask_168 : decode cX6_ask 168 = .ok (.iload 5, 2) := by decide +kernel
theorem dX6_ask_170 : decode cX6_ask 170 = .ok (.if_icmp .ge 8, 3) := by decide +kernel
theorem dX6_ask_173 : decode cX6_ask 173 = .ok (.iload 10, 2) := by decide +kernel
theorem dX6_ask_175 : decode cX6_ask 175 = .ok (.goto 5, 3) := by decide +kernel
theorem dX6_ask_178 : decode cX6_ask 178 = .ok (.iload 5, 2) := by decide +kernel
theorem dX6_ask_180 : decode cX6_ask 180 = .ok (.istore 5, 2) := by decide +kernel
theorem dX6_ask_182 : decode cX6_ask 182 = .ok (.iinc 8 1, 3) := by decide +kernel
theorem dX6_ask_185 : decode cX6_ask 185 = .ok (.goto (-130), 3) := by decide +kernel
theorem dX6_ask_188 : decode cX6_ask 188 = .ok (.iinc 7 1, 3) := by decide +kernel
theorem dX6_ask_191 : decode cX6_ask 191 = .ok (.goto (-148), 3) := by decide +kernel
theorem dX6_ask_194 : decode cX6_ask 194 = .ok (.iload 6, 2) := by decide +kernel
theorem dX6_ask_196 : decode cX6_ask 196 = .ok (.bipush (-4), 2) := by decide +kernel
theorem dX6_ask_198 : decode cX6_ask 198 = .ok (.if_icmp .eq 7, 3) := by decide +kernel
theorem dX6_ask_201 : decode cX6_ask 201 = .ok (.iload_n 2, 1) := by decide +kernel
theorem dX6_ask_202 : decode cX6_ask 202 = .ok (.ifCond .ne 8, 3) := by decide +kernel
theorem dX6_ask_205 : decode cX6_ask 205 = .ok (.iload 6, 2) := by decide +kernel
theorem dX6_ask_207 : decode cX6_ask 207 = .ok (.goto 5, 3) := by decide +kernel
theorem dX6_ask_210 : decode cX6_ask 210 = .ok (.iload 5, 2) := by decide +kernel
theorem dX6_ask_212 : decode cX6_ask 212 = .ok (.ireturn, 1) := by decide +kernel
theorem dX6_drift_0 : decode cX6_drift 0 = .ok (.iload_n 2, 1) := by decide +kernel
theorem dX6_drift_1 : decode cX6_drift 1 = .ok (.i2l, 1) := by decide +kernel
theorem dX6_drift_2 : decode cX6_drift 2 = .ok (.lconst 1, 1) := by decide +kernel
theorem dX6_drift_3 : decode cX6_drift 3 = .ok (.ldc2_w 258, 3) := by decide +kernel
theorem dX6_drift_6 : decode cX6_drift 6 = .ok (.invokestatic 49, 3) := by decide +kernel
theorem dX6_drift_9 : decode cX6_drift 9 = .ok (.ifCond .eq 13, 3) := by decide +kernel
theorem dX6_drift_12 : decode cX6_drift 12 = .ok (.iload_n 3, 1) := by decide +kernel
theorem dX6_drift_13 : decode cX6_drift 13 = .ok (.i2l, 1) := by decide +kernel
theorem dX6_drift_14 : decode cX6_drift 14 = .ok (.lconst 0, 1) := by decide +kernel
theorem dX6_drift_15 : decode cX6_drift 15 = .ok (.lconst 1, 1) := by decide +kernel
theorem dX6_drift_16 : decode cX6_drift 16 = .ok (.invokestatic 49, 3) := by decide +kernel
theorem dX6_drift_19 : decode cX6_drift 19 = .ok (.ifCond .ne 5, 3) := by decide +kernel
theorem dX6_drift_22 : decode cX6_drift 22 = .ok (.iconst (-1), 1) := by decide +kernel
theorem dX6_drift_23 : decode cX6_drift 23 = .ok (.ireturn, 1) := by decide +kernel
theorem dX6_drift_24 : decode cX6_drift 24 = .ok (.aload_n 0, 1) := by decide +kernel
theorem dX6_drift_25 : decode cX6_drift 25 = .ok (.getfield 144, 3) := by decide +kernel
theorem dX6_drift_28 : decode cX6_drift 28 = .ok (.ifCond .eq 13, 3) := by decide +kernel
theorem dX6_drift_31 : decode cX6_drift 31 = .ok (.aload_n 0, 1) := by decide +kernel
theorem dX6_drift_32 : decode cX6_drift 32 = .ok (.getfield 7, 3) := by decide +kernel
theorem dX6_drift_35 : decode cX6_drift 35 = .ok (.bipush 25, 2) := by decide +kernel
theorem dX6_drift_37 : decode cX6_drift 37 = .ok (.iaload, 1) := by decide +kernel
theorem dX6_drift_38 : decode cX6_drift 38 = .ok (.ifCond .ne 6, 3) := by decide +kernel
theorem dX6_drift_41 : decode cX6_drift 41 = .ok (.bipush (-2), 2) := by decide +kernel
theorem dX6_drift_43 : decode cX6_drift 43 = .ok (.ireturn, 1) := by decide +kernel
theorem dX6_drift_44 : decode cX6_drift 44 = .ok (.aload_n 0, 1) := by decide +kernel
theorem dX6_drift_45 : decode cX6_drift 45 = .ok (.iconst 0, 1) := by decide +kernel
theorem dX6_drift_46 : decode cX6_drift 46 = .ok (.sipush 260, 3) := by decide +kernel
theorem dX6_drift_49 : decode cX6_drift 49 = .ok (.invokevirtual 220, 3) := by decide +kernel
theorem dX6_drift_52 : decode cX6_drift 52 = .ok (.iload_n 1, 1) := by decide +kernel
theorem dX6_drift_53 : decode cX6_drift 53 = .ok (.istore 4, 2) := by decide +kernel
theorem dX6_drift_55 : decode cX6_drift 55 = .ok (.iconst 0, 1) := by decide +kernel
theorem dX6_drift_56 : decode cX6_drift 56 = .ok (.istore 5, 2) := by decide +kernel
theorem dX6_drift_58 : decode cX6_drift 58 = .ok (.iload 5, 2) := by decide +kernel
theorem dX6_drift_60 : decode cX6_drift 60 = .ok (.iload_n 2, 1) := by decide +kernel
theorem dX6_drift_61 : decode cX6_drift 61 = .ok (.if_icmp .ge 96, 3) := by decide +kernel
theorem dX6_drift_64 : decode cX6_drift 64 = .ok (.iload 4, 2) := by decide +kernel
theorem dX6_drift_66 : decode cX6_drift 66 = .ok (.ldc_w 260, 3) := by decide +kernel
theorem dX6_drift_69 : decode cX6_drift 69 = .ok (.imul, 1) := by decide +kernel
theorem dX6_drift_70 : decode cX6_drift 70 = .ok (.sipush 12345, 3) := by decide +kernel
theorem dX6_drift_73 : decode cX6_drift 73 = .ok (.iadd, 1) := by decide +kernel
theorem dX6_drift_74 : decode cX6_drift 74 = .ok (.istore 4, 2) := by decide +kernel
theorem dX6_drift_76 : decode cX6_drift 76 = .ok (.iload 4, 2) := by decide +kernel
theorem dX6_drift_78 : decode cX6_drift 78 = .ok (.bipush 16, 2) := by decide +kernel
theorem dX6_drift_80 : decode cX6_drift 80 = .ok (.ishr, 1) := by decide +kernel
theorem dX6_drift_81 : decode cX6_drift 81 = .ok (.sipush 32767, 3) := by decide +kernel
theorem dX6_drift_84 : decode cX6_drift 84 = .ok (.iand, 1) := by decide +kernel
theorem dX6_drift_85 : decode cX6_drift 85 = .ok (.istore 6, 2) := by decide +kernel
theorem dX6_drift_87 : decode cX6_drift 87 = .ok (.iload 6, 2) := by decide +kernel
theorem dX6_drift_89 : decode cX6_drift 89 = .ok (.bipush 8, 2) := by decide +kernel
theorem dX6_drift_91 : decode cX6_drift 91 = .ok (.idiv, 1) := by decide +kernel
theorem dX6_drift_92 : decode cX6_drift 92 = .ok (.aload_n 0, 1) := by decide +kernel
theorem dX6_drift_93 : decode cX6_drift 93 = .ok (.getfield 7, 3) := by decide +kernel
theorem dX6_drift_96 : decode cX6_drift 96 = .ok (.bipush 25, 2) := by decide +kernel
theorem dX6_drift_98 : decode cX6_drift 98 = .ok (.iaload, 1) := by decide +kernel
theorem dX6_drift_99 : decode cX6_drift 99 = .ok (.irem, 1) := by decide +kernel
theorem dX6_drift_100 : decode cX6_drift 100 = .ok (.istore 7, 2) := by decide +kernel
theorem dX6_drift_102 : decode cX6_drift 102 = .ok (.aload_n 0, 1) := by decide +kernel
theorem dX6_drift_103 : decode cX6_drift 103 = .ok (.sipush 260, 3) := by decide +kernel
theorem dX6_drift_106 : decode cX6_drift 106 = .ok (.iload 6, 2) := by decide +kernel
theorem dX6_drift_108 : decode cX6_drift 108 = .ok (.aload_n 0, 1) := by decide +kernel
theorem dX6_drift_109 : decode cX6_drift 109 = .ok (.getfield 144, 3) := by decide +kernel
theorem dX6_drift_112 : decode cX6_drift 112 = .ok (.irem, 1) := by decide +kernel
theorem dX6_drift_113 : decode cX6_drift 113 = .ok (.iload 7, 2) := by decide +kernel
theorem dX6_drift_115 : decode cX6_drift 115 = .ok (.invokevirtual 208, 3) := by decide +kernel
theorem dX6_drift_118 : decode cX6_drift 118 = .ok (.ifCond .ne 33, 3) := by decide +kernel
theorem dX6_drift_121 : decode cX6_drift 121 = .ok (.aload_n 0, 1) := by decide +kernel
theorem dX6_drift_122 : decode cX6_drift 122 = .ok (.sipush 260, 3) := by decide +kernel
theorem dX6_drift_125 : decode cX6_drift 125 = .ok (.iload 7, 2) := by decide +kernel
theorem dX6_drift_127 : decode cX6_drift 127 = .ok (.invokevirtual 152, 3) := by decide +kernel
theorem dX6_drift_130 : decode cX6_drift 130 = .ok (.istore 8, 2) := by decide +kernel
theorem dX6_drift_132 : decode cX6_drift 132 = .ok (.iload 8, 2) := by decide +kernel
theorem dX6_drift_134 : decode cX6_drift 134 = .ok (.bipush (-4), 2) := by decide +kernel
theorem dX6_drift_136 : decode cX6_drift 136 = .ok (.if_icmp .eq 15, 3) := by decide +kernel
theorem dX6_drift_139 : decode cX6_drift 139 = .ok (.aload_n 0, 1) := by decide +kernel
theorem dX6_drift_140 : decode cX6_drift 140 = .ok (.getfield 7, 3) := by decide +kernel
theorem dX6_drift_143 : decode cX6_drift 143 = .ok (.sipush 275, 3) := by decide +kernel
theorem dX6_drift_146 : decode cX6_drift 146 = .ok (.iload 8, 2) := by decide +kernel
theorem dX6_drift_148 : decode cX6_drift 148 = .ok (.iadd, 1) := by decide +kernel
theorem dX6_drift_149 : decode cX6_drift 149 = .ok (.iconst 0, 1) := by decide +kernel
theorem dX6_drift_150 : decode cX6_drift 150 = .ok (.iastore, 1) := by decide +kernel
theorem dX6_drift_151 : decode cX6_drift 151 = .ok (.iinc 5 1, 3) := by decide +kernel
theorem dX6_drift_154 : decode cX6_drift 154 = .ok (.goto (-96), 3) := by decide +kernel
theorem dX6_drift_157 : decode cX6_drift 157 = .ok (.iload_n 3, 1) := by decide +kernel
theorem dX6_drift_158 : decode cX6_drift 158 = .ok (.ifCond .ne 13, 3) := by decide +kernel
theorem dX6_drift_161 : decode cX6_drift 161 = .ok (.aload_n 0, 1) := by decide +kernel
theorem dX6_drift_162 : decode cX6_drift 162 = .ok (.sipush 260, 3) := by decide +kernel
theorem dX6_drift_165 : decode cX6_drift 165 = .ok (.invokevirtual 233, 3) := by decide +kernel
theorem dX6_drift_168 : decode cX6_drift 168 = .ok (.goto 10, 3) := by decide +kernel
theorem dX6_drift_171 : decode cX6_drift 171 = .ok (.aload_n 0, 1) := by decide +kernel
theorem dX6_drift_172 : decode cX6_drift 172 = .ok (.sipush 260, 3) := by decide +kernel
theorem dX6_drift_175 : decode cX6_drift 175 = .ok (.invokevirtual 182, 3) := by decide +kernel
theorem dX6_drift_178 : decode cX6_drift 178 = .ok (.ireturn, 1) := by decide +kernel
theorem dX6_keep_0 : decode cX6_keep 0 = .ok (.iload_n 1, 1) := by decide +kernel
theorem dX6_keep_1 : decode cX6_keep 1 = .ok (.i2l, 1) := by decide +kernel
theorem dX6_keep_2 : decode cX6_keep 2 = .ok (.lconst 0, 1) := by decide +kernel
theorem dX6_keep_3 : decode cX6_keep 3 = .ok (.lconst 1, 1) := by decide +kernel
theorem dX6_keep_4 : decode cX6_keep 4 = .ok (.invokestatic 49, 3) := by decide +kernel
theorem dX6_keep_7 : decode cX6_keep 7 = .ok (.ifCond .ne 5, 3) := by decide +kernel
theorem dX6_keep_10 : decode cX6_keep 10 = .ok (.iconst (-1), 1) := by decide +kernel
theorem dX6_keep_11 : decode cX6_keep 11 = .ok (.ireturn, 1) := by decide +kernel
theorem dX6_keep_12 : decode cX6_keep 12 = .ok (.aload_n 0, 1) := by decide +kernel
theorem dX6_keep_13 : decode cX6_keep 13 = .ok (.iconst 0, 1) := by decide +kernel
theorem dX6_keep_14 : decode cX6_keep 14 = .ok (.bipush 65, 2) := by decide +kernel
theorem dX6_keep_16 : decode cX6_keep 16 = .ok (.iload_n 1, 1) := by decide +kernel
theorem dX6_keep_17 : decode cX6_keep 17 = .ok (.iconst 1, 1) := by decide +kernel
theorem dX6_keep_18 : decode cX6_keep 18 = .ok (.iadd, 1) := by decide +kernel
theorem dX6_keep_19 : decode cX6_keep 19 = .ok (.imul, 1) := by decide +kernel
theorem dX6_keep_20 : decode cX6_keep 20 = .ok (.invokevirtual 220, 3) := by decide +kernel
theorem dX6_keep_23 : decode cX6_keep 23 = .ok (.aload_n 0, 1) := by decide +kernel
theorem dX6_keep_24 : decode cX6_keep 24 = .ok (.getfield 34, 3) := by decide +kernel
theorem dX6_keep_27 : decode cX6_keep 27 = .ok (.iload_n 1, 1) := by decide +kernel
theorem dX6_keep_28 : decode cX6_keep 28 = .ok (.baload, 1) := by decide +kernel
theorem dX6_keep_29 : decode cX6_keep 29 = .ok (.ifCond .eq 7, 3) := by decide +kernel
theorem dX6_keep_32 : decode cX6_keep 32 = .ok (.iconst 1, 1) := by decide +kernel
theorem dX6_keep_33 : decode cX6_keep 33 = .ok (.goto 4, 3) := by decide +kernel
theorem dX6_keep_36 : decode cX6_keep 36 = .ok (.iconst 0, 1) := by decide +kernel
theorem dX6_keep_37 : decode cX6_keep 37 = .ok (.istore_n 2, 1) := by decide +kernel
theorem dX6_keep_38 : decode cX6_keep 38 = .ok (.aload_n 0, 1) := by decide +kernel
theorem dX6_keep_39 : decode cX6_keep 39 = .ok (.getfield 34, 3) := by decide +kernel
theorem dX6_keep_42 : decode cX6_keep 42 = .ok (.iload_n 1, 1) := by decide +kernel
theorem dX6_keep_43 : decode cX6_keep 43 = .ok (.iconst 1, 1) := by decide +kernel
theorem dX6_keep_44 : decode cX6_keep 44 = .ok (.bastore, 1) := by decide +kernel
theorem dX6_keep_45 : decode cX6_keep 45 = .ok (.iload_n 2, 1) := by decide +kernel
theorem dX6_keep_46 : decode cX6_keep 46 = .ok (.ireturn, 1) := by decide +kernel
theorem dX6_back_0 : decode cX6_back 0 = .ok (.iload_n 1, 1) := by decide +kernel
theorem dX6_back_1 : decode cX6_back 1 = .ok (.i2l, 1) := by decide +kernel
theorem dX6_back_2 : decode cX6_back 2 = .ok (.lconst 0, 1) := by decide +kernel
theorem dX6_back_3 : decode cX6_back 3 = .ok (.lconst 1, 1) := by decide +kernel
theorem dX6_back_4 : decode cX6_back 4 = .ok (.invokestatic 49, 3) := by decide +kernel
theorem dX6_back_7 : decode cX6_back 7 = .ok (.ifCond .ne 5, 3) := by decide +kernel
theorem dX6_back_10 : decode cX6_back 10 = .ok (.iconst (-1), 1) := by decide +kernel
theorem dX6_back_11 : decode cX6_back 11 = .ok (.ireturn, 1) := by decide +kernel
theorem dX6_back_12 : decode cX6_back 12 = .ok (.aload_n 0, 1) := by decide +kernel
theorem dX6_back_13 : decode cX6_back 13 = .ok (.getfield 34, 3) := by decide +kernel
theorem dX6_back_16 : decode cX6_back 16 = .ok (.iload_n 1, 1) := by decide +kernel
theorem dX6_back_17 : decode cX6_back 17 = .ok (.baload, 1) := by decide +kernel
theorem dX6_back_18 : decode cX6_back 18 = .ok (.ifCond .ne 6, 3) := by decide +kernel
theorem dX6_back_21 : decode cX6_back 21 = .ok (.bipush (-2), 2) := by decide +kernel
theorem dX6_back_23 : decode cX6_back 23 = .ok (.ireturn, 1) := by decide +kernel
theorem dX6_back_24 : decode cX6_back 24 = .ok (.aload_n 0, 1) := by decide +kernel
theorem dX6_back_25 : decode cX6_back 25 = .ok (.bipush 65, 2) := by decide +kernel
theorem dX6_back_27 : decode cX6_back 27 = .ok (.iload_n 1, 1) := by decide +kernel
theorem dX6_back_28 : decode cX6_back 28 = .ok (.iconst 1, 1) := by decide +kernel
theorem dX6_back_29 : decode cX6_back 29 = .ok (.iadd, 1) := by decide +kernel
theorem dX6_back_30 : decode cX6_back 30 = .ok (.imul, 1) := by decide +kernel
theorem dX6_back_31 : decode cX6_back 31 = .ok (.iconst 0, 1) := by decide +kernel
theorem dX6_back_32 : decode cX6_back 32 = .ok (.invokevirtual 220, 3) := by decide +kernel
theorem dX6_back_35 : decode cX6_back 35 = .ok (.aload_n 0, 1) := by decide +kernel
theorem dX6_back_36 : decode cX6_back 36 = .ok (.iconst 0, 1) := by decide +kernel
theorem dX6_back_37 : decode cX6_back 37 = .ok (.invokevirtual 182, 3) := by decide +kernel
theorem dX6_back_40 : decode cX6_back 40 = .ok (.ireturn, 1) := by decide +kernel
theorem dX6_sheet_0 : decode cX6_sheet 0 = .ok (.iload_n 1, 1) := by decide +kernel
theorem dX6_sheet_1 : decode cX6_sheet 1 = .ok (.i2l, 1) := by decide +kernel
theorem dX6_sheet_2 : decode cX6_sheet 2 = .ok (.lconst 0, 1) := by decide +kernel
theorem dX6_sheet_3 : decode cX6_sheet 3 = .ok (.ldc2_w 195, 3) := by decide +kernel
theorem dX6_sheet_6 : decode cX6_sheet 6 = .ok (.invokestatic 49, 3) := by decide +kernel
theorem dX6_sheet_9 : decode cX6_sheet 9 = .ok (.ifCond .eq 21, 3) := by decide +kernel
theorem dX6_sheet_12 : decode cX6_sheet 12 = .ok (.iload_n 2, 1) := by decide +kernel
theorem dX6_sheet_13 : decode cX6_sheet 13 = .ok (.i2l, 1) := by decide +kernel
theorem dX6_sheet_14 : decode cX6_sheet 14 = .ok (.lconst 0, 1) := by decide +kernel
theorem dX6_sheet_15 : decode cX6_sheet 15 = .ok (.ldc2_w 200, 3) := by decide +kernel
theorem dX6_sheet_18 : decode cX6_sheet 18 = .ok (.invokestatic 49, 3) := by decide +kernel
theorem dX6_sheet_21 : decode cX6_sheet 21 = .ok (.ifCond .eq 9, 3) := by decide +kernel
theorem dX6_sheet_24 : decode cX6_sheet 24 = .ok (.iload_n 3, 1) := by decide +kernel
theorem dX6_sheet_25 : decode cX6_sheet 25 = .ok (.bipush 40, 2) := by decide +kernel
theorem dX6_sheet_27 : decode cX6_sheet 27 = .ok (.if_icmp .le 5, 3) := by decide +kernel
theorem dX6_sheet_30 : decode cX6_sheet 30 = .ok (.iconst (-1), 1) := by decide +kernel
theorem dX6_sheet_31 : decode cX6_sheet 31 = .ok (.ireturn, 1) := by decide +kernel
theorem dX6_sheet_32 : decode cX6_sheet 32 = .ok (.iload_n 3, 1) := by decide +kernel
theorem dX6_sheet_33 : decode cX6_sheet 33 = .ok (.ifCond .ge 6, 3) := by decide +kernel
theorem dX6_sheet_36 : decode cX6_sheet 36 = .ok (.bipush (-14), 2) := by decide +kernel
theorem dX6_sheet_38 : decode cX6_sheet 38 = .ok (.ireturn, 1) := by decide +kernel
theorem dX6_sheet_39 : decode cX6_sheet 39 = .ok (.aload_n 0, 1) := by decide +kernel
theorem dX6_sheet_40 : decode cX6_sheet 40 = .ok (.getfield 38, 3) := by decide +kernel
theorem dX6_sheet_43 : decode cX6_sheet 43 = .ok (.iload_n 1, 1) := by decide +kernel
theorem dX6_sheet_44 : decode cX6_sheet 44 = .ok (.iload_n 2, 1) := by decide +kernel
theorem dX6_sheet_45 : decode cX6_sheet 45 = .ok (.iastore, 1) := by decide +kernel
theorem dX6_sheet_46 : decode cX6_sheet 46 = .ok (.aload_n 0, 1) := by decide +kernel
theorem dX6_sheet_47 : decode cX6_sheet 47 = .ok (.getfield 41, 3) := by decide +kernel
theorem dX6_sheet_50 : decode cX6_sheet 50 = .ok (.iload_n 1, 1) := by decide +kernel
theorem dX6_sheet_51 : decode cX6_sheet 51 = .ok (.iload_n 3, 1) := by decide +kernel
theorem dX6_sheet_52 : decode cX6_sheet 52 = .ok (.iastore, 1) := by decide +kernel
theorem dX6_sheet_53 : decode cX6_sheet 53 = .ok (.iconst 0, 1) := by decide +kernel
theorem dX6_sheet_54 : decode cX6_sheet 54 = .ok (.istore 4, 2) := by decide +kernel
theorem dX6_sheet_56 : decode cX6_sheet 56 = .ok (.iload 4, 2) := by decide +kernel
theorem dX6_sheet_58 : decode cX6_sheet 58 = .ok (.bipush 40, 2) := by decide +kernel
theorem dX6_sheet_60 : decode cX6_sheet 60 = .ok (.if_icmp .ge 22, 3) := by decide +kernel
theorem dX6_sheet_63 : decode cX6_sheet 63 = .ok (.aload_n 0, 1) := by decide +kernel
theorem dX6_sheet_64 : decode cX6_sheet 64 = .ok (.getfield 44, 3) := by decide +kernel
theorem dX6_sheet_67 : decode cX6_sheet 67 = .ok (.bipush 40, 2) := by decide +kernel
theorem dX6_sheet_69 : decode cX6_sheet 69 = .ok (.iload_n 1, 1) := by decide +kernel
theorem dX6_sheet_70 : decode cX6_sheet 70 = .ok (.imul, 1) := by decide +kernel
theorem dX6_sheet_71 : decode cX6_sheet 71 = .ok (.iload 4, 2) := by decide +kernel
theorem dX6_sheet_73 : decode cX6_sheet 73 = .ok (.iadd, 1) := by decide +kernel
theorem dX6_sheet_74 : decode cX6_sheet 74 = .ok (.iconst 0, 1) := by decide +kernel
theorem dX6_sheet_75 : decode cX6_sheet 75 = .ok (.iastore, 1) := by decide +kernel
theorem dX6_sheet_76 : decode cX6_sheet 76 = .ok (.iinc 4 1, 3) := by decide +kernel
theorem dX6_sheet_79 : decode cX6_sheet 79 = .ok (.goto (-23), 3) := by decide +kernel
theorem dX6_sheet_82 : decode cX6_sheet 82 = .ok (.iconst 1, 1) := by decide +kernel
theorem dX6_sheet_83 : decode cX6_sheet 83 = .ok (.ireturn, 1) := by decide +kernel
theorem dX6_lay_0 : decode cX6_lay 0 = .ok (.iload_n 1, 1) := by decide +kernel
theorem dX6_lay_1 : decode cX6_lay 1 = .ok (.i2l, 1) := by decide +kernel
theorem dX6_lay_2 : decode cX6_lay 2 = .ok (.lconst 0, 1) := by decide +kernel
theorem dX6_lay_3 : decode cX6_lay 3 = .ok (.ldc2_w 195, 3) := by decide +kernel
theorem dX6_lay_6 : decode cX6_lay 6 = .ok (.invokestatic 49, 3) := by decide +kernel
theorem dX6_lay_9 : decode cX6_lay 9 = .ok (.ifCond .ne 5, 3) := by decide +kernel
theorem dX6_lay_12 : decode cX6_lay 12 = .ok (.iconst (-1), 1) := by decide +kernel
theorem dX6_lay_13 : decode cX6_lay 13 = .ok (.ireturn, 1) := by decide +kernel
theorem dX6_lay_14 : decode cX6_lay 14 = .ok (.aload_n 0, 1) := by decide +kernel
theorem dX6_lay_15 : decode cX6_lay 15 = .ok (.getfield 38, 3) := by decide +kernel
theorem dX6_lay_18 : decode cX6_lay 18 = .ok (.iload_n 1, 1) := by decide +kernel
theorem dX6_lay_19 : decode cX6_lay 19 = .ok (.iaload, 1) := by decide +kernel
theorem dX6_lay_20 : decode cX6_lay 20 = .ok (.bipush (-4), 2) := by decide +kernel
theorem dX6_lay_22 : decode cX6_lay 22 = .ok (.if_icmp .ne 6, 3) := by decide +kernel
theorem dX6_lay_25 : decode cX6_lay 25 = .ok (.bipush (-11), 2) := by decide +kernel
theorem dX6_lay_27 : decode cX6_lay 27 = .ok (.ireturn, 1) := by decide +kernel
theorem dX6_lay_28 : decode cX6_lay 28 = .ok (.iload_n 2, 1) := by decide +kernel
theorem dX6_lay_29 : decode cX6_lay 29 = .ok (.i2l, 1) := by decide +kernel
theorem dX6_lay_30 : decode cX6_lay 30 = .ok (.lconst 0, 1) := by decide +kernel
theorem dX6_lay_31 : decode cX6_lay 31 = .ok (.aload_n 0, 1) := by decide +kernel
theorem dX6_lay_32 : decode cX6_lay 32 = .ok (.getfield 41, 3) := by decide +kernel
theorem dX6_lay_35 : decode cX6_lay 35 = .ok (.iload_n 1, 1) := by decide +kernel
theorem dX6_lay_36 : decode cX6_lay 36 = .ok (.iaload, 1) := by decide +kernel
theorem dX6_lay_37 : decode cX6_lay 37 = .ok (.iconst 1, 1) := by decide +kernel
theorem dX6_lay_38 : decode cX6_lay 38 = .ok (.isub, 1) := by decide +kernel
theorem dX6_lay_39 : decode cX6_lay 39 = .ok (.i2l, 1) := by decide +kernel
theorem dX6_lay_40 : decode cX6_lay 40 = .ok (.invokestatic 49, 3) := by decide +kernel
theorem dX6_lay_43 : decode cX6_lay 43 = .ok (.ifCond .ne 6, 3) := by decide +kernel
theorem dX6_lay_46 : decode cX6_lay 46 = .ok (.bipush (-12), 2) := by decide +kernel
theorem dX6_lay_48 : decode cX6_lay 48 = .ok (.ireturn, 1) := by decide +kernel
theorem dX6_lay_49 : decode cX6_lay 49 = .ok (.aload_n 0, 1) := by decide +kernel
theorem dX6_lay_50 : decode cX6_lay 50 = .ok (.getfield 44, 3) := by decide +kernel
theorem dX6_lay_53 : decode cX6_lay 53 = .ok (.bipush 40, 2) := by decide +kernel
theorem dX6_lay_55 : decode cX6_lay 55 = .ok (.iload_n 1, 1) := by decide +kernel
theorem dX6_lay_56 : decode cX6_lay 56 = .ok (.imul, 1) := by decide +kernel
theorem dX6_lay_57 : decode cX6_lay 57 = .ok (.iload_n 2, 1) := by decide +kernel
theorem dX6_lay_58 : decode cX6_lay 58 = .ok (.iadd, 1) := by decide +kernel
theorem dX6_lay_59 : decode cX6_lay 59 = .ok (.aload_n 0, 1) := by decide +kernel
theorem dX6_lay_60 : decode cX6_lay 60 = .ok (.getfield 38, 3) := by decide +kernel
theorem dX6_lay_63 : decode cX6_lay 63 = .ok (.iload_n 1, 1) := by decide +kernel
theorem dX6_lay_64 : decode cX6_lay 64 = .ok (.iaload, 1) := by decide +kernel
theorem dX6_lay_65 : decode cX6_lay 65 = .ok (.ifCond .ne 13, 3) := by decide +kernel
theorem dX6_lay_68 : decode cX6_lay 68 = .ok (.iload_n 3, 1) := by decide +kernel
theorem dX6_lay_69 : decode cX6_lay 69 = .ok (.bipush 24, 2) := by decide +kernel
theorem dX6_lay_71 : decode cX6_lay 71 = .ok (.ishl, 1) := by decide +kernel
theorem dX6_lay_72 : decode cX6_lay 72 = .ok (.bipush 24, 2) := by decide +kernel
theorem dX6_lay_74 : decode cX6_lay 74 = .ok (.ishr, 1) := by decide +kernel
theorem dX6_lay_75 : decode cX6_lay 75 = .ok (.goto 24, 3) := by decide +kernel
theorem dX6_lay_78 : decode cX6_lay 78 = .ok (.aload_n 0, 1) := by decide +kernel
theorem dX6_lay_79 : decode cX6_lay 79 = .ok (.getfield 38, 3) := by decide +kernel
theorem dX6_lay_82 : decode cX6_lay 82 = .ok (.iload_n 1, 1) := by decide +kernel
theorem dX6_lay_83 : decode cX6_lay 83 = .ok (.iaload, 1) := by decide +kernel
theorem dX6_lay_84 : decode cX6_lay 84 = .ok (.iconst 1, 1) := by decide +kernel
theorem dX6_lay_85 : decode cX6_lay 85 = .ok (.if_icmp .ne 13, 3) := by decide +kernel
theorem dX6_lay_88 : decode cX6_lay 88 = .ok (.iload_n 3, 1) := by decide +kernel
theorem dX6_lay_89 : decode cX6_lay 89 = .ok (.bipush 16, 2) := by decide +kernel
theorem dX6_lay_91 : decode cX6_lay 91 = .ok (.ishl, 1) := by decide +kernel
theorem dX6_lay_92 : decode cX6_lay 92 = .ok (.bipush 16, 2) := by decide +kernel
theorem dX6_lay_94 : decode cX6_lay 94 = .ok (.ishr, 1) := by decide +kernel
theorem dX6_lay_95 : decode cX6_lay 95 = .ok (.goto 4, 3) := by decide +kernel
theorem dX6_lay_98 : decode cX6_lay 98 = .ok (.iload_n 3, 1) := by decide +kernel
theorem dX6_lay_99 : decode cX6_lay 99 = .ok (.iastore, 1) := by decide +kernel
theorem dX6_lay_100 : decode cX6_lay 100 = .ok (.iconst 1, 1) := by decide +kernel
theorem dX6_lay_101 : decode cX6_lay 101 = .ok (.ireturn, 1) := by decide +kernel
theorem dX6_read_0 : decode cX6_read 0 = .ok (.iload_n 1, 1) := by decide +kernel
theorem dX6_read_1 : decode cX6_read 1 = .ok (.i2l, 1) := by decide +kernel
theorem dX6_read_2 : decode cX6_read 2 = .ok (.lconst 0, 1) := by decide +kernel
theorem dX6_read_3 : decode cX6_read 3 = .ok (.ldc2_w 195, 3) := by decide +kernel
theorem dX6_read_6 : decode cX6_read 6 = .ok (.invokestatic 49, 3) := by decide +kernel
theorem dX6_read_9 : decode cX6_read 9 = .ok (.ifCond .eq 28, 3) := by decide +kernel
theorem dX6_read_12 : decode cX6_read 12 = .ok (.iload_n 2, 1) := by decide +kernel
theorem dX6_read_13 : decode cX6_read 13 = .ok (.i2l, 1) := by decide +kernel
theorem dX6_read_14 : decode cX6_read 14 = .ok (.lconst 0, 1) := by decide +kernel
theorem dX6_read_15 : decode cX6_read 15 = .ok (.ldc2_w 200, 3) := by decide +kernel
theorem dX6_read_18 : decode cX6_read 18 = .ok (.invokestatic 49, 3) := by decide +kernel
theorem dX6_read_21 : decode cX6_read 21 = .ok (.ifCond .eq 16, 3) := by decide +kernel
theorem dX6_read_24 : decode cX6_read 24 = .ok (.iload 4, 2) := by decide +kernel
theorem dX6_read_26 : decode cX6_read 26 = .ok (.i2l, 1) := by decide +kernel
theorem dX6_read_27 : decode cX6_read 27 = .ok (.lconst 0, 1) := by decide +kernel
theorem dX6_read_28 : decode cX6_read 28 = .ok (.ldc2_w 261, 3) := by decide +kernel
theorem dX6_read_31 : decode cX6_read 31 = .ok (.invokestatic 49, 3) := by decide +kernel
theorem dX6_read_34 : decode cX6_read 34 = .ok (.ifCond .ne 5, 3) := by decide +kernel
theorem dX6_read_37 : decode cX6_read 37 = .ok (.iconst (-1), 1) := by decide +kernel
theorem dX6_read_38 : decode cX6_read 38 = .ok (.ireturn, 1) := by decide +kernel
theorem dX6_read_39 : decode cX6_read 39 = .ok (.aload_n 0, 1) := by decide +kernel
theorem dX6_read_40 : decode cX6_read 40 = .ok (.iconst 0, 1) := by decide +kernel
theorem dX6_read_41 : decode cX6_read 41 = .ok (.sipush 195, 3) := by decide +kernel
theorem dX6_read_44 : decode cX6_read 44 = .ok (.invokevirtual 220, 3) := by decide +kernel
theorem dX6_read_47 : decode cX6_read 47 = .ok (.iconst 0, 1) := by decide +kernel
theorem dX6_read_48 : decode cX6_read 48 = .ok (.istore 5, 2) := by decide +kernel
theorem dX6_read_50 : decode cX6_read 50 = .ok (.iconst 0, 1) := by decide +kernel
theorem dX6_read_51 : decode cX6_read 51 = .ok (.istore 6, 2) := by decide +kernel
theorem dX6_read_53 : decode cX6_read 53 = .ok (.iconst 0, 1) := by decide +kernel
theorem dX6_read_54 : decode cX6_read 54 = .ok (.istore 7, 2) := by decide +kernel
theorem dX6_read_56 : decode cX6_read 56 = .ok (.iload 7, 2) := by decide +kernel
theorem dX6_read_58 : decode cX6_read 58 = .ok (.iconst 2, 1) := by decide +kernel
theorem dX6_read_59 : decode cX6_read 59 = .ok (.iload 4, 2) := by decide +kernel
theorem dX6_read_61 : decode cX6_read 61 = .ok (.imul, 1) := by decide +kernel
theorem dX6_read_62 : decode cX6_read 62 = .ok (.if_icmp .ge 136, 3) := by decide +kernel
theorem dX6_read_65 : decode cX6_read 65 = .ok (.iload 5, 2) := by decide +kernel
theorem dX6_read_67 : decode cX6_read 67 = .ok (.ifCond .ne 131, 3) := by decide +kernel
theorem dX6_read_70 : decode cX6_read 70 = .ok (.aload_n 0, 1) := by decide +kernel
theorem dX6_read_71 : decode cX6_read 71 = .ok (.getfield 38, 3) := by decide +kernel
theorem dX6_read_74 : decode cX6_read 74 = .ok (.iload_n 1, 1) := by decide +kernel
theorem dX6_read_75 : decode cX6_read 75 = .ok (.iaload, 1) := by decide +kernel
theorem dX6_read_76 : decode cX6_read 76 = .ok (.bipush (-4), 2) := by decide +kernel
theorem dX6_read_78 : decode cX6_read 78 = .ok (.if_icmp .ne 7, 3) := by decide +kernel
theorem dX6_read_81 : decode cX6_read 81 = .ok (.iconst 1, 1) := by decide +kernel
theorem dX6_read_82 : decode cX6_read 82 = .ok (.goto 44, 3) := by decide +kernel
theorem dX6_read_85 : decode cX6_read 85 = .ok (.aload_n 0, 1) := by decide +kernel
theorem dX6_read_86 : decode cX6_read 86 = .ok (.getfield 38, 3) := by decide +kernel
theorem dX6_read_89 : decode cX6_read 89 = .ok (.iload_n 1, 1) := by decide +kernel
theorem dX6_read_90 : decode cX6_read 90 = .ok (.iaload, 1) := by decide +kernel
theorem dX6_read_91 : decode cX6_read 91 = .ok (.iload_n 2, 1) := by decide +kernel
theorem dX6_read_92 : decode cX6_read 92 = .ok (.if_icmp .eq 7, 3) := by decide +kernel
theorem dX6_read_95 : decode cX6_read 95 = .ok (.iconst 3, 1) := by decide +kernel
theorem dX6_read_96 : decode cX6_read 96 = .ok (.goto 30, 3) := by decide +kernel
theorem dX6_read_99 : decode cX6_read 99 = .ok (.iload_n 3, 1) := by decide +kernel
theorem dX6_read_100 : decode cX6_read 100 = .ok (.i2l, 1) := by decide +kernel
theorem dX6_read_101 : decode cX6_read 101 = .ok (.iload 7, 2) := by decide +kernel
theorem dX6_read_103 : decode cX6_read 103 = .ok (.i2l, 1) := by decide +kernel
theorem dX6_read_104 : decode cX6_read 104 = .ok (.ladd, 1) := by decide +kernel
theorem dX6_read_105 : decode cX6_read 105 = .ok (.lconst 0, 1) := by decide +kernel
theorem dX6_read_106 : decode cX6_read 106 = .ok (.aload_n 0, 1) := by decide +kernel
theorem dX6_read_107 : decode cX6_read 107 = .ok (.getfield 41, 3) := by decide +kernel
theorem dX6_read_110 : decode cX6_read 110 = .ok (.iload_n 1, 1) := by decide +kernel
theorem dX6_read_111 : decode cX6_read 111 = .ok (.iaload, 1) := by decide +kernel
theorem dX6_read_112 : decode cX6_read 112 = .ok (.iconst 1, 1) := by decide +kernel
theorem dX6_read_113 : decode cX6_read 113 = .ok (.isub, 1) := by decide +kernel
theorem dX6_read_114 : decode cX6_read 114 = .ok (.i2l, 1) := by decide +kernel
theorem dX6_read_115 : decode cX6_read 115 = .ok (.invokestatic 49, 3) := by decide +kernel
theorem dX6_read_118 : decode cX6_read 118 = .ok (.ifCond .ne 7, 3) := by decide +kernel
theorem dX6_read_121 : decode cX6_read 121 = .ok (.iconst 2, 1) := by decide +kernel
theorem dX6_read_122 : decode cX6_read 122 = .ok (.goto 4, 3) := by decide +kernel
theorem dX6_read_125 : decode cX6_read 125 = .ok (.iconst 0, 1) := by decide +kernel
theorem dX6_read_126 : decode cX6_read 126 = .ok (.istore 5, 2) := by decide +kernel
theorem dX6_read_128 : decode cX6_read 128 = .ok (.iload 5, 2) := by decide +kernel
theorem dX6_read_130 : decode cX6_read 130 = .ok (.ifCond .ne 62, 3) := by decide +kernel
theorem dX6_read_133 : decode cX6_read 133 = .ok (.iload 7, 2) := by decide +kernel
theorem dX6_read_135 : decode cX6_read 135 = .ok (.iconst 2, 1) := by decide +kernel
theorem dX6_read_136 : decode cX6_read 136 = .ok (.irem, 1) := by decide +kernel
theorem dX6_read_137 : decode cX6_read 137 = .ok (.iconst 1, 1) := by decide +kernel
theorem dX6_read_138 : decode cX6_read 138 = .ok (.if_icmp .ne 54, 3) := by decide +kernel
theorem dX6_read_141 : decode cX6_read 141 = .ok (.bipush 40, 2) := by decide +kernel
theorem dX6_read_143 : decode cX6_read 143 = .ok (.iload_n 1, 1) := by decide +kernel
theorem dX6_read_144 : decode cX6_read 144 = .ok (.imul, 1) := by decide +kernel
theorem dX6_read_145 : decode cX6_read 145 = .ok (.iload_n 3, 1) := by decide +kernel
theorem dX6_read_146 : decode cX6_read 146 = .ok (.iadd, 1) := by decide +kernel
theorem dX6_read_147 : decode cX6_read 147 = .ok (.iload 7, 2) := by decide +kernel
theorem dX6_read_149 : decode cX6_read 149 = .ok (.iadd, 1) := by decide +kernel
theorem dX6_read_150 : decode cX6_read 150 = .ok (.istore 8, 2) := by decide +kernel
theorem dX6_read_152 : decode cX6_read 152 = .ok (.aload_n 0, 1) := by decide +kernel
theorem dX6_read_153 : decode cX6_read 153 = .ok (.aload_n 0, 1) := by decide +kernel
theorem dX6_read_154 : decode cX6_read 154 = .ok (.getfield 44, 3) := by decide +kernel
theorem dX6_read_157 : decode cX6_read 157 = .ok (.iload 8, 2) := by decide +kernel
theorem dX6_read_159 : decode cX6_read 159 = .ok (.iconst 1, 1) := by decide +kernel
theorem dX6_read_160 : decode cX6_read 160 = .ok (.isub, 1) := by decide +kernel
theorem dX6_read_161 : decode cX6_read 161 = .ok (.iaload, 1) := by decide +kernel
theorem dX6_read_162 : decode cX6_read 162 = .ok (.aload_n 0, 1) := by decide +kernel
theorem dX6_read_163 : decode cX6_read 163 = .ok (.getfield 44, 3) := by decide +kernel
theorem dX6_read_166 : decode cX6_read 166 = .ok (.iload 8, 2) := by decide +kernel
theorem dX6_read_168 : decode cX6_read 168 = .ok (.iaload, 1) := by decide +kernel
theorem dX6_read_169 : decode cX6_read 169 = .ok (.invokevirtual 211, 3) := by decide +kernel
theorem dX6_read_172 : decode cX6_read 172 = .ok (.ifCond .ge 17, 3) := by decide +kernel
theorem dX6_read_175 : decode cX6_read 175 = .ok (.aload_n 0, 1) := by decide +kernel
theorem dX6_read_176 : decode cX6_read 176 = .ok (.sipush 195, 3) := by decide +kernel
theorem dX6_read_179 : decode cX6_read 179 = .ok (.iconst 0, 1) := by decide +kernel
theorem dX6_read_180 : decode cX6_read 180 = .ok (.invokevirtual 220, 3) := by decide +kernel
theorem dX6_read_183 : decode cX6_read 183 = .ok (.bipush (-20), 2) := by decide +kernel
theorem dX6_read_185 : decode cX6_read 185 = .ok (.iload 6, 2) := by decide +kernel
theorem dX6_read_187 : decode cX6_read 187 = .ok (.isub, 1) := by decide +kernel
theorem dX6_read_188 : decode cX6_read 188 = .ok (.ireturn, 1) := by decide +kernel
theorem dX6_read_189 : decode cX6_read 189 = .ok (.iinc 6 1, 3) := by decide +kernel
theorem dX6_read_192 : decode cX6_read 192 = .ok (.iinc 7 1, 3) := by decide +kernel
theorem dX6_read_195 : decode cX6_read 195 = .ok (.goto (-139), 3) := by decide +kernel
theorem dX6_read_198 : decode cX6_read 198 = .ok (.aload_n 0, 1) := by decide +kernel
theorem dX6_read_199 : decode cX6_read 199 = .ok (.iload 5, 2) := by decide +kernel
theorem dX6_read_201 : decode cX6_read 201 = .ok (.putfield 263, 3) := by decide +kernel
theorem dX6_read_204 : decode cX6_read 204 = .ok (.iload 6, 2) := by decide +kernel
theorem dX6_read_206 : decode cX6_read 206 = .ok (.ireturn, 1) := by decide +kernel
theorem dX6_torn_0 : decode cX6_torn 0 = .ok (.aload_n 0, 1) := by decide +kernel
theorem dX6_torn_1 : decode cX6_torn 1 = .ok (.getfield 263, 3) := by decide +kernel
theorem dX6_torn_4 : decode cX6_torn 4 = .ok (.ireturn, 1) := by decide +kernel
theorem dX6_count_0 : decode cX6_count 0 = .ok (.iconst 0, 1) := by decide +kernel
theorem dX6_count_1 : decode cX6_count 1 = .ok (.istore_n 2, 1) := by decide +kernel
theorem dX6_count_2 : decode cX6_count 2 = .ok (.iconst 0, 1) := by decide +kernel
theorem dX6_count_3 : decode cX6_count 3 = .ok (.istore_n 3, 1) := by decide +kernel
theorem dX6_count_4 : decode cX6_count 4 = .ok (.iconst 0, 1) := by decide +kernel
theorem dX6_count_5 : decode cX6_count 5 = .ok (.istore 4, 2) := by decide +kernel
theorem dX6_count_7 : decode cX6_count 7 = .ok (.iload 4, 2) := by decide +kernel
theorem dX6_count_9 : decode cX6_count 9 = .ok (.bipush 8, 2) := by decide +kernel
theorem dX6_count_11 : decode cX6_count 11 = .ok (.if_icmp .ge 22, 3) := by decide +kernel
theorem dX6_count_14 : decode cX6_count 14 = .ok (.iload_n 2, 1) := by decide +kernel
theorem dX6_count_15 : decode cX6_count 15 = .ok (.aload_n 0, 1) := by decide +kernel
theorem dX6_count_16 : decode cX6_count 16 = .ok (.getfield 7, 3) := by decide +kernel
theorem dX6_count_19 : decode cX6_count 19 = .ok (.bipush 44, 2) := by decide +kernel
theorem dX6_count_21 : decode cX6_count 21 = .ok (.iload 4, 2) := by decide +kernel
theorem dX6_count_23 : decode cX6_count 23 = .ok (.iadd, 1) := by decide +kernel
theorem dX6_count_24 : decode cX6_count 24 = .ok (.iaload, 1) := by decide +kernel
theorem dX6_count_25 : decode cX6_count 25 = .ok (.iadd, 1) := by decide +kernel
theorem dX6_count_26 : decode cX6_count 26 = .ok (.istore_n 2, 1) := by decide +kernel
theorem dX6_count_27 : decode cX6_count 27 = .ok (.iinc 4 1, 3) := by decide +kernel
theorem dX6_count_30 : decode cX6_count 30 = .ok (.goto (-23), 3) := by decide +kernel
theorem dX6_count_33 : decode cX6_count 33 = .ok (.iconst 0, 1) := by decide +kernel
theorem dX6_count_34 : decode cX6_count 34 = .ok (.istore 4, 2) := by decide +kernel
theorem dX6_count_36 : decode cX6_count 36 = .ok (.iload 4, 2) := by decide +kernel
theorem dX6_count_38 : decode cX6_count 38 = .ok (.aload_n 0, 1) := by decide +kernel
theorem dX6_count_39 : decode cX6_count 39 = .ok (.getfield 144, 3) := by decide +kernel
theorem dX6_count_42 : decode cX6_count 42 = .ok (.if_icmp .ge 22, 3) := by decide +kernel
theorem dX6_count_45 : decode cX6_count 45 = .ok (.iload_n 3, 1) := by decide +kernel
theorem dX6_count_46 : decode cX6_count 46 = .ok (.aload_n 0, 1) := by decide +kernel
theorem dX6_count_47 : decode cX6_count 47 = .ok (.getfield 7, 3) := by decide +kernel
theorem dX6_count_50 : decode cX6_count 50 = .ok (.bipush 20, 2) := by decide +kernel
theorem dX6_count_52 : decode cX6_count 52 = .ok (.iload 4, 2) := by decide +kernel
theorem dX6_count_54 : decode cX6_count 54 = .ok (.iadd, 1) := by decide +kernel
theorem dX6_count_55 : decode cX6_count 55 = .ok (.iaload, 1) := by decide +kernel
theorem dX6_count_56 : decode cX6_count 56 = .ok (.iadd, 1) := by decide +kernel
theorem dX6_count_57 : decode cX6_count 57 = .ok (.istore_n 3, 1) := by decide +kernel
theorem dX6_count_58 : decode cX6_count 58 = .ok (.iinc 4 1, 3) := by decide +kernel
theorem dX6_count_61 : decode cX6_count 61 = .ok (.goto (-25), 3) := by decide +kernel
theorem dX6_count_64 : decode cX6_count 64 = .ok (.iload_n 1, 1) := by decide +kernel
theorem dX6_count_65 : decode cX6_count 65 = .ok (.tableswitch 106 0 5 #[39, 44, 74, 79, 102, 104], 39) := by decide +kernel
theorem dX6_count_104 : decode cX6_count 104 = .ok (.aload_n 0, 1) := by decide +kernel
theorem dX6_count_105 : decode cX6_count 105 = .ok (.getfield 147, 3) := by decide +kernel
theorem dX6_count_108 : decode cX6_count 108 = .ok (.ireturn, 1) := by decide +kernel
theorem dX6_count_109 : decode cX6_count 109 = .ok (.aload_n 0, 1) := by decide +kernel
theorem dX6_count_110 : decode cX6_count 110 = .ok (.getfield 34, 3) := by decide +kernel
theorem dX6_count_113 : decode cX6_count 113 = .ok (.iconst 0, 1) := by decide +kernel
theorem dX6_count_114 : decode cX6_count 114 = .ok (.baload, 1) := by decide +kernel
theorem dX6_count_115 : decode cX6_count 115 = .ok (.ifCond .eq 7, 3) := by decide +kernel
theorem dX6_count_118 : decode cX6_count 118 = .ok (.iconst 1, 1) := by decide +kernel
theorem dX6_count_119 : decode cX6_count 119 = .ok (.goto 4, 3) := by decide +kernel
theorem dX6_count_122 : decode cX6_count 122 = .ok (.iconst 0, 1) := by decide +kernel
theorem dX6_count_123 : decode cX6_count 123 = .ok (.aload_n 0, 1) := by decide +kernel
theorem dX6_count_124 : decode cX6_count 124 = .ok (.getfield 34, 3) := by decide +kernel
theorem dX6_count_127 : decode cX6_count 127 = .ok (.iconst 1, 1) := by decide +kernel
theorem dX6_count_128 : decode cX6_count 128 = .ok (.baload, 1) := by decide +kernel
theorem dX6_count_129 : decode cX6_count 129 = .ok (.ifCond .eq 7, 3) := by decide +kernel
theorem dX6_count_132 : decode cX6_count 132 = .ok (.iconst 1, 1) := by decide +kernel
theorem dX6_count_133 : decode cX6_count 133 = .ok (.goto 4, 3) := by decide +kernel
theorem dX6_count_136 : decode cX6_count 136 = .ok (.iconst 0, 1) := by decide +kernel
theorem dX6_count_137 : decode cX6_count 137 = .ok (.iadd, 1) := by decide +kernel
theorem dX6_count_138 : decode cX6_count 138 = .ok (.ireturn, 1) := by decide +kernel
theorem dX6_count_139 : decode cX6_count 139 = .ok (.aload_n 0, 1) := by decide +kernel
theorem dX6_count_140 : decode cX6_count 140 = .ok (.getfield 53, 3) := by decide +kernel
theorem dX6_count_143 : decode cX6_count 143 = .ok (.ireturn, 1) := by decide +kernel
theorem dX6_count_144 : decode cX6_count 144 = .ok (.aload_n 0, 1) := by decide +kernel
theorem dX6_count_145 : decode cX6_count 145 = .ok (.getfield 38, 3) := by decide +kernel
theorem dX6_count_148 : decode cX6_count 148 = .ok (.iconst 0, 1) := by decide +kernel
theorem dX6_count_149 : decode cX6_count 149 = .ok (.iaload, 1) := by decide +kernel
theorem dX6_count_150 : decode cX6_count 150 = .ok (.bipush (-4), 2) := by decide +kernel
theorem dX6_count_152 : decode cX6_count 152 = .ok (.if_icmp .ne 8, 3) := by decide +kernel
theorem dX6_count_155 : decode cX6_count 155 = .ok (.bipush (-4), 2) := by decide +kernel
theorem dX6_count_157 : decode cX6_count 157 = .ok (.goto 9, 3) := by decide +kernel
theorem dX6_count_160 : decode cX6_count 160 = .ok (.aload_n 0, 1) := by decide +kernel
theorem dX6_count_161 : decode cX6_count 161 = .ok (.getfield 41, 3) := by decide +kernel
theorem dX6_count_164 : decode cX6_count 164 = .ok (.iconst 0, 1) := by decide +kernel
theorem dX6_count_165 : decode cX6_count 165 = .ok (.iaload, 1) := by decide +kernel
theorem dX6_count_166 : decode cX6_count 166 = .ok (.ireturn, 1) := by decide +kernel
theorem dX6_count_167 : decode cX6_count 167 = .ok (.iload_n 2, 1) := by decide +kernel
theorem dX6_count_168 : decode cX6_count 168 = .ok (.ireturn, 1) := by decide +kernel
theorem dX6_count_169 : decode cX6_count 169 = .ok (.iload_n 3, 1) := by decide +kernel
theorem dX6_count_170 : decode cX6_count 170 = .ok (.ireturn, 1) := by decide +kernel
theorem dX6_count_171 : decode cX6_count 171 = .ok (.iconst (-1), 1) := by decide +kernel
theorem dX6_count_172 : decode cX6_count 172 = .ok (.ireturn, 1) := by decide +kernel
