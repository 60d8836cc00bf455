theorem dX8_init_0 : decode cX8_init 0 = .ok (.aload_n 0, 1) := by decide +kernel
theorem dX8_init_1 : decode cX8_init 1 = .ok (.invokespecial 1, 3) := by decide +kernel
theorem dX8_init_4 : decode cX8_init 4 = .ok (.aload_n 0, 1) := by decide +kernel
theorem dX8_init_5 : decode cX8_init 5 = .ok (.bipush 93, 2) := by decide +kernel
theorem dX8_init_7 : decode cX8_init 7 = .ok (.newarray .int, 2) := by decide +kernel
theorem dX8_init_9 : decode cX8_init 9 = .ok (.putfield 9, 3) := by decide +kernel
theorem dX8_init_12 : decode cX8_init 12 = .ok (.aload_n 0, 1) := by decide +kernel
theorem dX8_init_13 : decode cX8_init 13 = .ok (.bipush 93, 2) := by decide +kernel
theorem dX8_init_15 : decode cX8_init 15 = .ok (.newarray .int, 2) := by decide +kernel
theorem dX8_init_17 : decode cX8_init 17 = .ok (.putfield 13, 3) := by decide +kernel
theorem dX8_init_20 : decode cX8_init 20 = .ok (.aload_n 0, 1) := by decide +kernel
theorem dX8_init_21 : decode cX8_init 21 = .ok (.bipush 93, 2) := by decide +kernel
theorem dX8_init_23 : decode cX8_init 23 = .ok (.newarray .int, 2) := by decide +kernel
theorem dX8_init_25 : decode cX8_init 25 = .ok (.putfield 16, 3) := by decide +kernel
theorem dX8_init_28 : decode cX8_init 28 = .ok (.aload_n 0, 1) := by decide +kernel
theorem dX8_init_29 : decode cX8_init 29 = .ok (.bipush 7, 2) := by decide +kernel
theorem dX8_init_31 : decode cX8_init 31 = .ok (.newarray .int, 2) := by decide +kernel
theorem dX8_init_33 : decode cX8_init 33 = .ok (.putfield 19, 3) := by decide +kernel
theorem dX8_init_36 : decode cX8_init 36 = .ok (.aload_n 0, 1) := by decide +kernel
theorem dX8_init_37 : decode cX8_init 37 = .ok (.sipush 16384, 3) := by decide +kernel
theorem dX8_init_40 : decode cX8_init 40 = .ok (.newarray .boolean, 2) := by decide +kernel
theorem dX8_init_42 : decode cX8_init 42 = .ok (.putfield 22, 3) := by decide +kernel
theorem dX8_init_45 : decode cX8_init 45 = .ok (.aload_n 0, 1) := by decide +kernel
theorem dX8_init_46 : decode cX8_init 46 = .ok (.sipush 256, 3) := by decide +kernel
theorem dX8_init_49 : decode cX8_init 49 = .ok (.newarray .int, 2) := by decide +kernel
theorem dX8_init_51 : decode cX8_init 51 = .ok (.putfield 26, 3) := by decide +kernel
theorem dX8_init_54 : decode cX8_init 54 = .ok (.aload_n 0, 1) := by decide +kernel
theorem dX8_init_55 : decode cX8_init 55 = .ok (.bipush 120, 2) := by decide +kernel
theorem dX8_init_57 : decode cX8_init 57 = .ok (.newarray .int, 2) := by decide +kernel
theorem dX8_init_59 : decode cX8_init 59 = .ok (.putfield 29, 3) := by decide +kernel
theorem dX8_init_62 : decode cX8_init 62 = .ok (.aload_n 0, 1) := by decide +kernel
theorem dX8_init_63 : decode cX8_init 63 = .ok (.bipush 56, 2) := by decide +kernel
theorem dX8_init_65 : decode cX8_init 65 = .ok (.newarray .char, 2) := by decide +kernel
theorem dX8_init_67 : decode cX8_init 67 = .ok (.dup, 1) := by decide +kernel
theorem dX8_init_68 : decode cX8_init 68 = .ok (.iconst 0, 1) := by decide +kernel
theorem dX8_init_69 : decode cX8_init 69 = .ok (.bipush 101, 2) := by decide +kernel
theorem dX8_init_71 : decode cX8_init 71 = .ok (.castore, 1) := by decide +kernel
theorem dX8_init_72 : decode cX8_init 72 = .ok (.dup, 1) := by decide +kernel
theorem dX8_init_73 : decode cX8_init 73 = .ok (.iconst 1, 1) := by decide +kernel
theorem dX8_init_74 : decode cX8_init 74 = .ok (.bipush 103, 2) := by decide +kernel
theorem dX8_init_76 : decode cX8_init 76 = .ok (.castore, 1) := by decide +kernel
theorem dX8_init_77 : decode cX8_init 77 = .ok (.dup, 1) := by decide +kernel
theorem dX8_init_78 : decode cX8_init 78 = .ok (.iconst 2, 1) := by decide +kernel
theorem dX8_init_79 : decode cX8_init 79 = .ok (.bipush 103, 2) := by decide +kernel
theorem dX8_init_81 : decode cX8_init 81 = .ok (.castore, 1) := by decide +kernel
theorem dX8_init_82 : decode cX8_init 82 = .ok (.dup, 1) := by decide +kernel
theorem dX8_init_83 : decode cX8_init 83 = .ok (.iconst 3, 1) := by decide +kernel
theorem dX8_init_84 : decode cX8_init 84 = .ok (.bipush 32, 2) := by decide +kernel
theorem dX8_init_86 : decode cX8_init 86 = .ok (.castore, 1) := by decide +kernel
theorem dX8_init_87 : decode cX8_init 87 = .ok (.dup, 1) := by decide +kernel
theorem dX8_init_88 : decode cX8_init 88 = .ok (.iconst 4, 1) := by decide +kernel
theorem dX8_init_89 : decode cX8_init 89 = .ok (.bipush 32, 2) := by decide +kernel
theorem dX8_init_91 : decode cX8_init 91 = .ok (.castore, 1) := by decide +kernel
theorem dX8_init_92 : decode cX8_init 92 = .ok (.dup, 1) := by decide +kernel
theorem dX8_init_93 : decode cX8_init 93 = .ok (.iconst 5, 1) := by decide +kernel
theorem dX8_init_94 : decode cX8_init 94 = .ok (.bipush 32, 2) := by decide +kernel
theorem dX8_init_96 : decode cX8_init 96 = .ok (.castore, 1) := by decide +kernel
theorem dX8_init_97 : decode cX8_init 97 = .ok (.dup, 1) := by decide +kernel
theorem dX8_init_98 : decode cX8_init 98 = .ok (.bipush 6, 2) := by decide +kernel
theorem dX8_init_100 : decode cX8_init 100 = .ok (.bipush 32, 2) := by decide +kernel
theorem dX8_init_102 : decode cX8_init 102 = .ok (.castore, 1) := by decide +kernel
theorem dX8_init_103 : decode cX8_init 103 = .ok (.dup, 1) := by decide +kernel
theorem dX8_init_104 : decode cX8_init 104 = .ok (.bipush 7, 2) := by decide +kernel
theorem dX8_init_106 : decode cX8_init 106 = .ok (.bipush 32, 2) := by decide +kernel
theorem dX8_init_108 : decode cX8_init 108 = .ok (.castore, 1) := by decide +kernel
theorem dX8_init_109 : decode cX8_init 109 = .ok (.dup, 1) := by decide +kernel
theorem dX8_init_110 : decode cX8_init 110 = .ok (.bipush 8, 2) := by decide +kernel
theorem dX8_init_112 : decode cX8_init 112 = .ok (.bipush 108, 2) := by decide +kernel
theorem dX8_init_114 : decode cX8_init 114 = .ok (.castore, 1) := by decide +kernel
theorem dX8_init_115 : decode cX8_init 115 = .ok (.dup, 1) := by decide +kernel
theorem dX8_init_116 : decode cX8_init 116 = .ok (.bipush 9, 2) := by decide +kernel
theorem dX8_init_118 : decode cX8_init 118 = .ok (.bipush 101, 2) := by decide +kernel
theorem dX8_init_120 : decode cX8_init 120 = .ok (.castore, 1) := by decide +kernel
theorem dX8_init_121 : decode cX8_init 121 = .ok (.dup, 1) := by decide +kernel
theorem dX8_init_122 : decode cX8_init 122 = .ok (.bipush 10, 2) := by decide +kernel
theorem dX8_init_124 : decode cX8_init 124 = .ok (.bipush 97, 2) := by decide +kernel
theorem dX8_init_126 : decode cX8_init 126 = .ok (.castore, 1) := by decide +kernel
theorem dX8_init_127 : decode cX8_init 127 = .ok (.dup, 1) := by decide +kernel
theorem dX8_init_128 : decode cX8_init 128 = .ok (.bipush 11, 2) := by decide +kernel
theorem dX8_init_130 : decode cX8_init 130 = .ok (.bipush 112, 2) := by decide +kernel
theorem dX8_init_132 : decode cX8_init 132 = .ok (.castore, 1) := by decide +kernel
theorem dX8_init_133 : decode cX8_init 133 = .ok (.dup, 1) := by decide +kernel
theorem dX8_init_134 : decode cX8_init 134 = .ok (.bipush 12, 2) := by decide +kernel
theorem dX8_init_136 : decode cX8_init 136 = .ok (.bipush 32, 2) := by decide +kernel
theorem dX8_init_138 : decode cX8_init 138 = .ok (.castore, 1) := by decide +kernel
theorem dX8_init_139 : decode cX8_init 139 = .ok (.dup, 1) := by decide +kernel
theorem dX8_init_140 : decode cX8_init 140 = .ok (.bipush 13, 2) := by decide +kernel
theorem dX8_init_142 : decode cX8_init 142 = .ok (.bipush 32, 2) := by decide +kernel
theorem dX8_init_144 : decode cX8_init 144 = .ok (.castore, 1) := by decide +kernel
theorem dX8_init_145 : decode cX8_init 145 = .ok (.dup, 1) := by decide +kernel
theorem dX8_init_146 : decode cX8_init 146 = .ok (.bipush 14, 2) := by decide +kernel
theorem dX8_init_148 : decode cX8_init 148 = .ok (.bipush 32, 2) := by decide +kernel
theorem dX8_init_150 : decode cX8_init 150 = .ok (.castore, 1) := by decide +kernel
theorem dX8_init_151 : decode cX8_init 151 = .ok (.dup, 1) := by decide +kernel
theorem dX8_init_152 : decode cX8_init 152 = .ok (.bipush 15, 2) := by decide +kernel
theorem dX8_init_154 : decode cX8_init 154 = .ok (.bipush 32, 2) := by decide +kernel
theorem dX8_init_156 : decode cX8_init 156 = .ok (.castore, 1) := by decide +kernel
theorem dX8_init_157 : decode cX8_init 157 = .ok (.dup, 1) := by decide +kernel
theorem dX8_init_158 : decode cX8_init 158 = .ok (.bipush 16, 2) := by decide +kernel
theorem dX8_init_160 : decode cX8_init 160 = .ok (.bipush 119, 2) := by decide +kernel
theorem dX8_init_162 : decode cX8_init 162 = .ok (.castore, 1) := by decide +kernel
theorem dX8_init_163 : decode cX8_init 163 = .ok (.dup, 1) := by decide +kernel
theorem dX8_init_164 : decode cX8_init 164 = .ok (.bipush 17, 2) := by decide +kernel
theorem dX8_init_166 : decode cX8_init 166 = .ok (.bipush 97, 2) := by decide +kernel
theorem dX8_init_168 : decode cX8_init 168 = .ok (.castore, 1) := by decide +kernel
theorem dX8_init_169 : decode cX8_init 169 = .ok (.dup, 1) := by decide +kernel
theorem dX8_init_170 : decode cX8_init 170 = .ok (.bipush 18, 2) := by decide +kernel
theorem dX8_init_172 : decode cX8_init 172 = .ok (.bipush 114, 2) := by decide +kernel
theorem dX8_init_174 : decode cX8_init 174 = .ok (.castore, 1) := by decide +kernel
theorem dX8_init_175 : decode cX8_init 175 = .ok (.dup, 1) := by decide +kernel
theorem dX8_init_176 : decode cX8_init 176 = .ok (.bipush 19, 2) := by decide +kernel
theorem dX8_init_178 : decode cX8_init 178 = .ok (.bipush 109, 2) := by decide +kernel
theorem dX8_init_180 : decode cX8_init 180 = .ok (.castore, 1) := by decide +kernel
theorem dX8_init_181 : decode cX8_init 181 = .ok (.dup, 1) := by decide +kernel
theorem dX8_init_182 : decode cX8_init 182 = .ok (.bipush 20, 2) := by decide +kernel
theorem dX8_init_184 : decode cX8_init 184 = .ok (.bipush 32, 2) := by decide +kernel
theorem dX8_init_186 : decode cX8_init 186 = .ok (.castore, 1) := by decide +kernel
theorem dX8_init_187 : decode cX8_init 187 = .ok (.dup, 1) := by decide +kernel
theorem dX8_init_188 : decode cX8_init 188 = .ok (.bipush 21, 2) := by decide +kernel
theorem dX8_init_190 : decode cX8_init 190 = .ok (.bipush 32, 2) := by decide +kernel
theorem dX8_init_192 : decode cX8_init 192 = .ok (.castore, 1) := by decide +kernel
theorem dX8_init_193 : decode cX8_init 193 = .ok (.dup, 1) := by decide +kernel
theorem dX8_init_194 : decode cX8_init 194 = .ok (.bipush 22, 2) := by decide +kernel
theorem dX8_init_196 : decode cX8_init 196 = .ok (.bipush 32, 2) := by decide +kernel
theorem dX8_init_198 : decode cX8_init 198 = .ok (.castore, 1) := by decide +kernel
theorem dX8_init_199 : decode cX8_init 199 = .ok (.dup, 1) := by decide +kernel
theorem dX8_init_200 : decode cX8_init 200 = .ok (.bipush 23, 2) := by decide +kernel
theorem dX8_init_202 : decode cX8_init 202 = .ok (.bipush 32, 2) := by decide +kernel
theorem dX8_init_204 : decode cX8_init 204 = .ok (.castore, 1) := by decide +kernel
theorem dX8_init_205 : decode cX8_init 205 = .ok (.dup, 1) := by decide +kernel
theorem dX8_init_206 : decode cX8_init 206 = .ok (.bipush 24, 2) := by decide +kernel
theorem dX8_init_208 : decode cX8_init 208 = .ok (.bipush 98, 2) := by decide +kernel
theorem dX8_init_210 : decode cX8_init 210 = .ok (.castore, 1) := by decide +kernel
theorem dX8_init_211 : decode cX8_init 211 = .ok (.dup, 1) := by decide +kernel
theorem dX8_init_212 : decode cX8_init 212 = .ok (.bipush 25, 2) := by decide +kernel
theorem dX8_init_214 : decode cX8_init 214 = .ok (.bipush 111, 2) := by decide +kernel
theorem dX8_init_216 : decode cX8_init 216 = .ok (.castore, 1) := by decide +kernel
theorem dX8_init_217 : decode cX8_init 217 = .ok (.dup, 1) := by decide +kernel
theorem dX8_init_218 : decode cX8_init 218 = .ok (.bipush 26, 2) := by decide +kernel
theorem dX8_init_220 : decode cX8_init 220 = .ok (.bipush 114, 2) := by decide +kernel
theorem dX8_init_222 : decode cX8_init 222 = .ok (.castore, 1) := by decide +kernel
theorem dX8_init_223 : decode cX8_init 223 = .ok (.dup, 1) := by decide +kernel
theorem dX8_init_224 : decode cX8_init 224 = .ok (.bipush 27, 2) := by decide +kernel
theorem dX8_init_226 : decode cX8_init 226 = .ok (.bipush 114, 2) := by decide +kernel
theorem dX8_init_228 : decode cX8_init 228 = .ok (.castore, 1) := by decide +kernel
theorem dX8_init_229 : decode cX8_init 229 = .ok (.dup, 1) := by decide +kernel
theorem dX8_init_230 : decode cX8_init 230 = .ok (.bipush 28, 2) := by decide +kernel
theorem dX8_init_232 : decode cX8_init 232 = .ok (.bipush 111, 2) := by decide +kernel
theorem dX8_init_234 : decode cX8_init 234 = .ok (.castore, 1) := by decide +kernel
theorem dX8_init_235 : decode cX8_init 235 = .ok (.dup, 1) := by decide +kernel
theorem dX8_init_236 : decode cX8_init 236 = .ok (.bipush 29, 2) := by decide +kernel
theorem dX8_init_238 : decode cX8_init 238 = .ok (.bipush 119, 2) := by decide +kernel
theorem dX8_init_240 : decode cX8_init 240 = .ok (.castore, 1) := by decide +kernel
theorem dX8_init_241 : decode cX8_init 241 = .ok (.dup, 1) := by decide +kernel
theorem dX8_init_242 : decode cX8_init 242 = .ok (.bipush 30, 2) := by decide +kernel
theorem dX8_init_244 : decode cX8_init 244 = .ok (.bipush 101, 2) := by decide +kernel
theorem dX8_init_246 : decode cX8_init 246 = .ok (.castore, 1) := by decide +kernel
theorem dX8_init_247 : decode cX8_init 247 = .ok (.dup, 1) := by decide +kernel
theorem dX8_init_248 : decode cX8_init 248 = .ok (.bipush 31, 2) := by decide +kernel
theorem dX8_init_250 : decode cX8_init 250 = .ok (.bipush 100, 2) := by decide +kernel
theorem dX8_init_252 : decode cX8_init 252 = .ok (.castore, 1) := by decide +kernel
theorem dX8_init_253 : decode cX8_init 253 = .ok (.dup, 1) := by decide +kernel
theorem dX8_init_254 : decode cX8_init 254 = .ok (.bipush 32, 2) := by decide +kernel
theorem dX8_init_256 : decode cX8_init 256 = .ok (.bipush 114, 2) := by decide +kernel
theorem dX8_init_258 : decode cX8_init 258 = .ok (.castore, 1) := by decide +kernel
theorem dX8_init_259 : decode cX8_init 259 = .ok (.dup, 1) := by decide +kernel
theorem dX8_init_260 : decode cX8_init 260 = .ok (.bipush 33, 2) := by decide +kernel
theorem dX8_init_262 : decode cX8_init 262 = .ok (.bipush 111, 2) := by decide +kernel
theorem dX8_init_264 : decode cX8_init 264 = .ok (.castore, 1) := by decide +kernel
theorem dX8_init_265 : decode cX8_init 265 = .ok (.dup, 1) := by decide +kernel
theorem dX8_init_266 : decode cX8_init 266 = .ok (.bipush 34, 2) := by decide +kernel
theorem dX8_init_268 : decode cX8_init 268 = .ok (.bipush 116, 2) := by decide +kernel
theorem dX8_init_270 : decode cX8_init 270 = .ok (.castore, 1) := by decide +kernel
theorem dX8_init_271 : decode cX8_init 271 = .ok (.dup, 1) := by decide +kernel
theorem dX8_init_272 : decode cX8_init 272 = .ok (.bipush 35, 2) := by decide +kernel
theorem dX8_init_274 : decode cX8_init 274 = .ok (.bipush 116, 2) := by decide +kernel
theorem dX8_init_276 : decode cX8_init 276 = .ok (.castore, 1) := by decide +kernel
theorem dX8_init_277 : decode cX8_init 277 = .ok (.dup, 1) := by decide +kernel
theorem dX8_init_278 : decode cX8_init 278 = .ok (.bipush 36, 2) := by decide +kernel
theorem dX8_init_280 : decode cX8_init 280 = .ok (.bipush 101, 2) := by decide +kernel
theorem dX8_init_282 : decode cX8_init 282 = .ok (.castore, 1) := by decide +kernel
theorem dX8_init_283 : decode cX8_init 283 = .ok (.dup, 1) := by decide +kernel
theorem dX8_init_284 : decode cX8_init 284 = .ok (.bipush 37, 2) := by decide +kernel
theorem dX8_init_286 : decode cX8_init 286 = .ok (.bipush 110, 2) := by decide +kernel
theorem dX8_init_288 : decode cX8_init 288 = .ok (.castore, 1) := by decide +kernel
theorem dX8_init_289 : decode cX8_init 289 = .ok (.dup, 1) := by decide +kernel
theorem dX8_init_290 : decode cX8_init 290 = .ok (.bipush 38, 2) := by decide +kernel
theorem dX8_init_292 : decode cX8_init 292 = .ok (.bipush 32, 2) := by decide +kernel
theorem dX8_init_294 : decode cX8_init 294 = .ok (.castore, 1) := by decide +kernel
theorem dX8_init_295 : decode cX8_init 295 = .ok (.dup, 1) := by decide +kernel
theorem dX8_init_296 : decode cX8_init 296 = .ok (.bipush 39, 2) := by decide +kernel
theorem dX8_init_298 : decode cX8_init 298 = .ok (.bipush 32, 2) := by decide +kernel
theorem dX8_init_300 : decode cX8_init 300 = .ok (.castore, 1) := by decide +kernel
theorem dX8_init_301 : decode cX8_init 301 = .ok (.dup, 1) := by decide +kernel
theorem dX8_init_302 : decode cX8_init 302 = .ok (.bipush 40, 2) := by decide +kernel
theorem dX8_init_304 : decode cX8_init 304 = .ok (.bipush 119, 2) := by decide +kernel
theorem dX8_init_306 : decode cX8_init 306 = .ok (.castore, 1) := by decide +kernel
theorem dX8_init_307 : decode cX8_init 307 = .ok (.dup, 1) := by decide +kernel
theorem dX8_init_308 : decode cX8_init 308 = .ok (.bipush 41, 2) := by decide +kernel
theorem dX8_init_310 : decode cX8_init 310 = .ok (.bipush 105, 2) := by decide +kernel
theorem dX8_init_312 : decode cX8_init 312 = .ok (.castore, 1) := by decide +kernel
theorem dX8_init_313 : decode cX8_init 313 = .ok (.dup, 1) := by decide +kernel
theorem dX8_init_314 : decode cX8_init 314 = .ok (.bipush 42, 2) := by decide +kernel
theorem dX8_init_316 : decode cX8_init 316 = .ok (.bipush 110, 2) := by decide +kernel
theorem dX8_init_318 : decode cX8_init 318 = .ok (.castore, 1) := by decide +kernel
theorem dX8_init_319 : decode cX8_init 319 = .ok (.dup, 1) := by decide +kernel
theorem dX8_init_320 : decode cX8_init 320 = .ok (.bipush 43, 2) := by decide +kernel
theorem dX8_init_322 : decode cX8_init 322 = .ok (.bipush 100, 2) := by decide +kernel
theorem dX8_init_324 : decode cX8_init 324 = .ok (.castore, 1) := by decide +kernel
theorem dX8_init_325 : decode cX8_init 325 = .ok (.dup, 1) := by decide +kernel
theorem dX8_init_326 : decode cX8_init 326 = .ok (.bipush 44, 2) := by decide +kernel
theorem dX8_init_328 : decode cX8_init 328 = .ok (.bipush 32, 2) := by decide +kernel
theorem dX8_init_330 : decode cX8_init 330 = .ok (.castore, 1) := by decide +kernel
theorem dX8_init_331 : decode cX8_init 331 = .ok (.dup, 1) := by decide +kernel
theorem dX8_init_332 : decode cX8_init 332 = .ok (.bipush 45, 2) := by decide +kernel
theorem dX8_init_334 : decode cX8_init 334 = .ok (.bipush 32, 2) := by decide +kernel
theorem dX8_init_336 : decode cX8_init 336 = .ok (.castore, 1) := by decide +kernel
theorem dX8_init_337 : decode cX8_init 337 = .ok (.dup, 1) := by decide +kernel
theorem dX8_init_338 : decode cX8_init 338 = .ok (.bipush 46, 2) := by decide +kernel
theorem dX8_init_340 : decode cX8_init 340 = .ok (.bipush 32, 2) := by decide +kernel
theorem dX8_init_342 : decode cX8_init 342 = .ok (.castore, 1) := by decide +kernel
theorem dX8_init_343 : decode cX8_init 343 = .ok (.dup, 1) := by decide +kernel
theorem dX8_init_344 : decode cX8_init 344 = .ok (.bipush 47, 2) := by decide +kernel
theorem dX8_init_346 : decode cX8_init 346 = .ok (.bipush 32, 2) := by decide +kernel
theorem dX8_init_348 : decode cX8_init 348 = .ok (.castore, 1) := by decide +kernel
theorem dX8_init_349 : decode cX8_init 349 = .ok (.dup, 1) := by decide +kernel
theorem dX8_init_350 : decode cX8_init 350 = .ok (.bipush 48, 2) := by decide +kernel
theorem dX8_init_352 : decode cX8_init 352 = .ok (.bipush 100, 2) := by decide +kernel
theorem dX8_init_354 : decode cX8_init 354 = .ok (.castore, 1) := by decide +kernel
theorem dX8_init_355 : decode cX8_init 355 = .ok (.dup, 1) := by decide +kernel
theorem dX8_init_356 : decode cX8_init 356 = .ok (.bipush 49, 2) := by decide +kernel
theorem dX8_init_358 : decode cX8_init 358 = .ok (.bipush 111, 2) := by decide +kernel
theorem dX8_init_360 : decode cX8_init 360 = .ok (.castore, 1) := by decide +kernel
theorem dX8_init_361 : decode cX8_init 361 = .ok (.dup, 1) := by decide +kernel
theorem dX8_init_362 : decode cX8_init 362 = .ok (.bipush 50, 2) := by decide +kernel
theorem dX8_init_364 : decode cX8_init 364 = .ok (.bipush 117, 2) := by decide +kernel
theorem dX8_init_366 : decode cX8_init 366 = .ok (.castore, 1) := by decide +kernel
theorem dX8_init_367 : decode cX8_init 367 = .ok (.dup, 1) := by decide +kernel
theorem dX8_init_368 : decode cX8_init 368 = .ok (.bipush 51, 2) := by decide +kernel
theorem dX8_init_370 : decode cX8_init 370 = .ok (.bipush 98, 2) := by decide +kernel
theorem dX8_init_372 : decode cX8_init 372 = .ok (.castore, 1) := by decide +kernel
theorem dX8_init_373 : decode cX8_init 373 = .ok (.dup, 1) := by decide +kernel
theorem dX8_init_374 : decode cX8_init 374 = .ok (.bipush 52, 2) := by decide +kernel
theorem dX8_init_376 : decode cX8_init 376 = .ok (.bipush 108, 2) := by decide +kernel
theorem dX8_init_378 : decode cX8_init 378 = .ok (.castore, 1) := by decide +kernel
theorem dX8_init_379 : decode cX8_init 379 = .ok (.dup, 1) := by decide +kernel
theorem dX8_init_380 : decode cX8_init 380 = .ok (.bipush 53, 2) := by decide +kernel
theorem dX8_init_382 : decode cX8_init 382 = .ok (.bipush 101, 2) := by decide +kernel
theorem dX8_init_384 : decode cX8_init 384 = .ok (.castore, 1) := by decide +kernel
theorem dX8_init_385 : decode cX8_init 385 = .ok (.dup, 1) := by decide +kernel
theorem dX8_init_386 : decode cX8_init 386 = .ok (.bipush 54, 2) := by decide +kernel
theorem dX8_init_388 : decode cX8_init 388 = .ok (.bipush 32, 2) := by decide +kernel
theorem dX8_init_390 : decode cX8_init 390 = .ok (.castore, 1) := by decide +kernel
theorem dX8_init_391 : decode cX8_init 391 = .ok (.dup, 1) := by decide +kernel
theorem dX8_init_392 : decode cX8_init 392 = .ok (.bipush 55, 2) := by decide +kernel
theorem dX8_init_394 : decode cX8_init 394 = .ok (.bipush 32, 2) := by decide +kernel
theorem dX8_init_396 : decode cX8_init 396 = .ok (.castore, 1) := by decide +kernel
theorem dX8_init_397 : decode cX8_init 397 = .ok (.putfield 32, 3) := by decide +kernel
theorem dX8_init_400 : decode cX8_init 400 = .ok (.aload_n 0, 1) := by decide +kernel
theorem dX8_init_401 : decode cX8_init 401 = .ok (.bipush 16, 2) := by decide +kernel
theorem dX8_init_403 : decode cX8_init 403 = .ok (.newarray .char, 2) := by decide +kernel
theorem dX8_init_405 : decode cX8_init 405 = .ok (.dup, 1) := by decide +kernel
theorem dX8_init_406 : decode cX8_init 406 = .ok (.iconst 0, 1) := by decide +kernel
theorem dX8_init_407 : decode cX8_init 407 = .ok (.bipush 97, 2) := by decide +kernel
theorem dX8_init_409 : decode cX8_init 409 = .ok (.castore, 1) := by decide +kernel
theorem dX8_init_410 : decode cX8_init 410 = .ok (.dup, 1) := by decide +kernel
theorem dX8_init_411 : decode cX8_init 411 = .ok (.iconst 1, 1) := by decide +kernel
theorem dX8_init_412 : decode cX8_init 412 = .ok (.bipush 103, 2) := by decide +kernel
theorem dX8_init_414 : decode cX8_init 414 = .ok (.castore, 1) := by decide +kernel
theorem dX8_init_415 : decode cX8_init 415 = .ok (.dup, 1) := by decide +kernel
theorem dX8_init_416 : decode cX8_init 416 = .ok (.iconst 2, 1) := by decide +kernel
theorem dX8_init_417 : decode cX8_init 417 = .ok (.bipush 101, 2) := by decide +kernel
theorem dX8_init_419 : decode cX8_init 419 = .ok (.castore, 1) := by decide +kernel
theorem dX8_init_420 : decode cX8_init 420 = .ok (.dup, 1) := by decide +kernel
theorem dX8_init_421 : decode cX8_init 421 = .ok (.iconst 3, 1) := by decide +kernel
theorem dX8_init_422 : decode cX8_init 422 = .ok (.bipush 100, 2) := by decide +kernel
theorem dX8_init_424 : decode cX8_init 424 = .ok (.castore, 1) := by decide +kernel
theorem dX8_init_425 : decode cX8_init 425 = .ok (.dup, 1) := by decide +kernel
theorem dX8_init_426 : decode cX8_init 426 = .ok (.iconst 4, 1) := by decide +kernel
theorem dX8_init_427 : decode cX8_init 427 = .ok (.bipush 32, 2) := by decide +kernel
theorem dX8_init_429 : decode cX8_init 429 = .ok (.castore, 1) := by decide +kernel
theorem dX8_init_430 : decode cX8_init 430 = .ok (.dup, 1) := by decide +kernel
theorem dX8_init_431 : decode cX8_init 431 = .ok (.iconst 5, 1) := by decide +kernel
theorem dX8_init_432 : decode cX8_init 432 = .ok (.bipush 32, 2) := by decide +kernel
theorem dX8_init_434 : decode cX8_init 434 = .ok (.castore, 1) := by decide +kernel
theorem dX8_init_435 : decode cX8_init 435 = .ok (.dup, 1) := by decide +kernel
theorem dX8_init_436 : decode cX8_init 436 = .ok (.bipush 6, 2) := by decide +kernel
theorem dX8_init_438 : decode cX8_init 438 = .ok (.bipush 32, 2) := by decide +kernel
theorem dX8_init_440 : decode cX8_init 440 = .ok (.castore, 1) := by decide +kernel
theorem dX8_init_441 : decode cX8_init 441 = .ok (.dup, 1) := by decide +kernel
theorem dX8_init_442 : decode cX8_init 442 = .ok (.bipush 7, 2) := by decide +kernel
theorem dX8_init_444 : decode cX8_init 444 = .ok (.bipush 32, 2) := by decide +kernel
theorem dX8_init_446 : decode cX8_init 446 = .ok (.castore, 1) := by decide +kernel
theorem dX8_init_447 : decode cX8_init 447 = .ok (.dup, 1) := by decide +kernel
theorem dX8_init_448 : decode cX8_init 448 = .ok (.bipush 8, 2) := by decide +kernel
theorem dX8_init_450 : decode cX8_init 450 = .ok (.bipush 105, 2) := by decide +kernel
theorem dX8_init_452 : decode cX8_init 452 = .ok (.castore, 1) := by decide +kernel
theorem dX8_init_453 : decode cX8_init 453 = .ok (.dup, 1) := by decide +kernel
theorem dX8_init_454 : decode cX8_init 454 = .ok (.bipush 9, 2) := by decide +kernel
theorem dX8_init_456 : decode cX8_init 456 = .ok (.bipush 110, 2) := by decide +kernel
theorem dX8_init_458 : decode cX8_init 458 = .ok (.castore, 1) := by decide +kernel
theorem dX8_init_459 : decode cX8_init 459 = .ok (.dup, 1) := by decide +kernel
theorem dX8_init_460 : decode cX8_init 460 = .ok (.bipush 10, 2) := by decide +kernel
theorem dX8_init_462 : decode cX8_init 462 = .ok (.bipush 32, 2) := by decide +kernel
theorem dX8_init_464 : decode cX8_init 464 = .ok (.castore, 1) := by decide +kernel
theorem dX8_init_465 : decode cX8_init 465 = .ok (.dup, 1) := by decide +kernel
theorem dX8_init_466 : decode cX8_init 466 = .ok (.bipush 11, 2) := by decide +kernel
theorem dX8_init_468 : decode cX8_init 468 = .ok (.bipush 32, 2) := by decide +kernel
theorem dX8_init_470 : decode cX8_init 470 = .ok (.castore, 1) := by decide +kernel
theorem dX8_init_471 : decode cX8_init 471 = .ok (.dup, 1) := by decide +kernel
theorem dX8_init_472 : decode cX8_init 472 = .ok (.bipush 12, 2) := by decide +kernel
theorem dX8_init_474 : decode cX8_init 474 = .ok (.bipush 32, 2) := by decide +kernel
theorem dX8_init_476 : decode cX8_init 476 = .ok (.castore, 1) := by decide +kernel
theorem dX8_init_477 : decode cX8_init 477 = .ok (.dup, 1) := by decide +kernel
theorem dX8_init_478 : decode cX8_init 478 = .ok (.bipush 13, 2) := by decide +kernel
theorem dX8_init_480 : decode cX8_init 480 = .ok (.bipush 32, 2) := by decide +kernel
theorem dX8_init_482 : decode cX8_init 482 = .ok (.castore, 1) := by decide +kernel
theorem dX8_init_483 : decode cX8_init 483 = .ok (.dup, 1) := by decide +kernel
theorem dX8_init_484 : decode cX8_init 484 = .ok (.bipush 14, 2) := by decide +kernel
theorem dX8_init_486 : decode cX8_init 486 = .ok (.bipush 32, 2) := by decide +kernel
theorem dX8_init_488 : decode cX8_init 488 = .ok (.castore, 1) := by decide +kernel
theorem dX8_init_489 : decode cX8_init 489 = .ok (.dup, 1) := by decide +kernel
theorem dX8_init_490 : decode cX8_init 490 = .ok (.bipush 15, 2) := by decide +kernel
theorem dX8_init_492 : decode cX8_init 492 = .ok (.bipush 32, 2) := by decide +kernel
theorem dX8_init_494 : decode cX8_init 494 = .ok (.castore, 1) := by decide +kernel
theorem dX8_init_495 : decode cX8_init 495 = .ok (.putfield 36, 3) := by decide +kernel
theorem dX8_init_498 : decode cX8_init 498 = .ok (.aload_n 0, 1) := by decide +kernel
theorem dX8_init_499 : decode cX8_init 499 = .ok (.bipush 16, 2) := by decide +kernel
theorem dX8_init_501 : decode cX8_init 501 = .ok (.newarray .char, 2) := by decide +kernel
theorem dX8_init_503 : decode cX8_init 503 = .ok (.dup, 1) := by decide +kernel
theorem dX8_init_504 : decode cX8_init 504 = .ok (.iconst 0, 1) := by decide +kernel
theorem dX8_init_505 : decode cX8_init 505 = .ok (.bipush 100, 2) := by decide +kernel
theorem dX8_init_507 : decode cX8_init 507 = .ok (.castore, 1) := by decide +kernel
theorem dX8_init_508 : decode cX8_init 508 = .ok (.dup, 1) := by decide +kernel
theorem dX8_init_509 : decode cX8_init 509 = .ok (.iconst 1, 1) := by decide +kernel
theorem dX8_init_510 : decode cX8_init 510 = .ok (.bipush 117, 2) := by decide +kernel
theorem dX8_init_512 : decode cX8_init 512 = .ok (.castore, 1) := by decide +kernel
theorem dX8_init_513 : decode cX8_init 513 = .ok (.dup, 1) := by decide +kernel
theorem dX8_init_514 : decode cX8_init 514 = .ok (.iconst 2, 1) := by decide +kernel
theorem dX8_init_515 : decode cX8_init 515 = .ok (.bipush 101, 2) := by decide +kernel
theorem dX8_init_517 : decode cX8_init 517 = .ok (.castore, 1) := by decide +kernel
theorem dX8_init_518 : decode cX8_init 518 = .ok (.dup, 1) := by decide +kernel
theorem dX8_init_519 : decode cX8_init 519 = .ok (.iconst 3, 1) := by decide +kernel
theorem dX8_init_520 : decode cX8_init 520 = .ok (.bipush 32, 2) := by decide +kernel
theorem dX8_init_522 : decode cX8_init 522 = .ok (.castore, 1) := by decide +kernel
theorem dX8_init_523 : decode cX8_init 523 = .ok (.dup, 1) := by decide +kernel
theorem dX8_init_524 : decode cX8_init 524 = .ok (.iconst 4, 1) := by decide +kernel
theorem dX8_init_525 : decode cX8_init 525 = .ok (.bipush 32, 2) := by decide +kernel
theorem dX8_init_527 : decode cX8_init 527 = .ok (.castore, 1) := by decide +kernel
theorem dX8_init_528 : decode cX8_init 528 = .ok (.dup, 1) := by decide +kernel
theorem dX8_init_529 : decode cX8_init 529 = .ok (.iconst 5, 1) := by decide +kernel
theorem dX8_init_530 : decode cX8_init 530 = .ok (.bipush 32, 2) := by decide +kernel
theorem dX8_init_532 : decode cX8_init 532 = .ok (.castore, 1) := by decide +kernel
theorem dX8_init_533 : decode cX8_init 533 = .ok (.dup, 1) := by decide +kernel
theorem dX8_init_534 : decode cX8_init 534 = .ok (.bipush 6, 2) := by decide +kernel
theorem dX8_init_536 : decode cX8_init 536 = .ok (.bipush 32, 2) := by decide +kernel
theorem dX8_init_538 : decode cX8_init 538 = .ok (.castore, 1) := by decide +kernel
theorem dX8_init_539 : decode cX8_init 539 = .ok (.dup, 1) := by decide +kernel
theorem dX8_init_540 : decode cX8_init 540 = .ok (.bipush 7, 2) := by decide +kernel
theorem dX8_init_542 : decode cX8_init 542 = .ok (.bipush 32, 2) := by decide +kernel
theorem dX8_init_544 : decode cX8_init 544 = .ok (.castore, 1) := by decide +kernel
theorem dX8_init_545 : decode cX8_init 545 = .ok (.dup, 1) := by decide +kernel
theorem dX8_init_546 : decode cX8_init 546 = .ok (.bipush 8, 2) := by decide +kernel
theorem dX8_init_548 : decode cX8_init 548 = .ok (.bipush 119, 2) := by decide +kernel
theorem dX8_init_550 : decode cX8_init 550 = .ok (.castore, 1) := by decide +kernel
theorem dX8_init_551 : decode cX8_init 551 = .ok (.dup, 1) := by decide +kernel
theorem dX8_init_552 : decode cX8_init 552 = .ok (.bipush 9, 2) := by decide +kernel
theorem dX8_init_554 : decode cX8_init 554 = .ok (.bipush 111, 2) := by decide +kernel
theorem dX8_init_556 : decode cX8_init 556 = .ok (.castore, 1) := by decide +kernel
theorem dX8_init_557 : decode cX8_init 557 = .ok (.dup, 1) := by decide +kernel
theorem dX8_init_558 : decode cX8_init 558 = .ok (.bipush 10, 2) := by decide +kernel
theorem dX8_init_560 : decode cX8_init 560 = .ok (.bipush 114, 2) := by decide +kernel
theorem dX8_init_562 : decode cX8_init 562 = .ok (.castore, 1) := by decide +kernel
theorem dX8_init_563 : decode cX8_init 563 = .ok (.dup, 1) := by decide +kernel
theorem dX8_init_564 : decode cX8_init 564 = .ok (.bipush 11, 2) := by decide +kernel
theorem dX8_init_566 : decode cX8_init 566 = .ok (.bipush 116, 2) := by decide +kernel
theorem dX8_init_568 : decode cX8_init 568 = .ok (.castore, 1) := by decide +kernel
theorem dX8_init_569 : decode cX8_init 569 = .ok (.dup, 1) := by decide +kernel
theorem dX8_init_570 : decode cX8_init 570 = .ok (.bipush 12, 2) := by decide +kernel
theorem dX8_init_572 : decode cX8_init 572 = .ok (.bipush 104, 2) := by decide +kernel
theorem dX8_init_574 : decode cX8_init 574 = .ok (.castore, 1) := by decide +kernel
theorem dX8_init_575 : decode cX8_init 575 = .ok (.dup, 1) := by decide +kernel
theorem dX8_init_576 : decode cX8_init 576 = .ok (.bipush 13, 2) := by decide +kernel
theorem dX8_init_578 : decode cX8_init 578 = .ok (.bipush 32, 2) := by decide +kernel
theorem dX8_init_580 : decode cX8_init 580 = .ok (.castore, 1) := by decide +kernel
theorem dX8_init_581 : decode cX8_init 581 = .ok (.dup, 1) := by decide +kernel
theorem dX8_init_582 : decode cX8_init 582 = .ok (.bipush 14, 2) := by decide +kernel
theorem dX8_init_584 : decode cX8_init 584 = .ok (.bipush 32, 2) := by decide +kernel
theorem dX8_init_586 : decode cX8_init 586 = .ok (.castore, 1) := by decide +kernel
theorem dX8_init_587 : decode cX8_init 587 = .ok (.dup, 1) := by decide +kernel
theorem dX8_init_588 : decode cX8_init 588 = .ok (.bipush 15, 2) := by decide +kernel
theorem dX8_init_590 : decode cX8_init 590 = .ok (.bipush 32, 2) := by decide +kernel
theorem dX8_init_592 : decode cX8_init 592 = .ok (.castore, 1) := by decide +kernel
theorem dX8_init_593 : decode cX8_init 593 = .ok (.putfield 39, 3) := by decide +kernel
theorem dX8_init_596 : decode cX8_init 596 = .ok (.aload_n 0, 1) := by decide +kernel
theorem dX8_init_597 : decode cX8_init 597 = .ok (.bipush 16, 2) := by decide +kernel
theorem dX8_init_599 : decode cX8_init 599 = .ok (.newarray .char, 2) := by decide +kernel
theorem dX8_init_601 : decode cX8_init 601 = .ok (.dup, 1) := by decide +kernel
theorem dX8_init_602 : decode cX8_init 602 = .ok (.iconst 0, 1) := by decide +kernel
theorem dX8_init_603 : decode cX8_init 603 = .ok (.bipush 104, 2) := by decide +kernel
theorem dX8_init_605 : decode cX8_init 605 = .ok (.castore, 1) := by decide +kernel
theorem dX8_init_606 : decode cX8_init 606 = .ok (.dup, 1) := by decide +kernel
theorem dX8_init_607 : decode cX8_init 607 = .ok (.iconst 1, 1) := by decide +kernel
theorem dX8_init_608 : decode cX8_init 608 = .ok (.bipush 101, 2) := by decide +kernel
theorem dX8_init_610 : decode cX8_init 610 = .ok (.castore, 1) := by decide +kernel
theorem dX8_init_611 : decode cX8_init 611 = .ok (.dup, 1) := by decide +kernel
theorem dX8_init_612 : decode cX8_init 612 = .ok (.iconst 2, 1) := by decide +kernel
theorem dX8_init_613 : decode cX8_init 613 = .ok (.bipush 110, 2) := by decide +kernel
theorem dX8_init_615 : decode cX8_init 615 = .ok (.castore, 1) := by decide +kernel
theorem dX8_init_616 : decode cX8_init 616 = .ok (.dup, 1) := by decide +kernel
theorem dX8_init_617 : decode cX8_init 617 = .ok (.iconst 3, 1) := by decide +kernel
theorem dX8_init_618 : decode cX8_init 618 = .ok (.bipush 32, 2) := by decide +kernel
theorem dX8_init_620 : decode cX8_init 620 = .ok (.castore, 1) := by decide +kernel
theorem dX8_init_621 : decode cX8_init 621 = .ok (.dup, 1) := by decide +kernel
theorem dX8_init_622 : decode cX8_init 622 = .ok (.iconst 4, 1) := by decide +kernel
theorem dX8_init_623 : decode cX8_init 623 = .ok (.bipush 32, 2) := by decide +kernel
theorem dX8_init_625 : decode cX8_init 625 = .ok (.castore, 1) := by decide +kernel
theorem dX8_init_626 : decode cX8_init 626 = .ok (.dup, 1) := by decide +kernel
theorem dX8_init_627 : decode cX8_init 627 = .ok (.iconst 5, 1) := by decide +kernel
theorem dX8_init_628 : decode cX8_init 628 = .ok (.bipush 32, 2) := by decide +kernel
theorem dX8_init_630 : decode cX8_init 630 = .ok (.castore, 1) := by decide +kernel
theorem dX8_init_631 : decode cX8_init 631 = .ok (.dup, 1) := by decide +kernel
theorem dX8_init_632 : decode cX8_init 632 = .ok (.bipush 6, 2) := by decide +kernel
theorem dX8_init_634 : decode cX8_init 634 = .ok (.bipush 32, 2) := by decide +kernel
theorem dX8_init_636 : decode cX8_init 636 = .ok (.castore, 1) := by decide +kernel
theorem dX8_init_637 : decode cX8_init 637 = .ok (.dup, 1) := by decide +kernel
theorem dX8_init_638 : decode cX8_init 638 = .ok (.bipush 7, 2) := by decide +kernel
theorem dX8_init_640 : decode cX8_init 640 = .ok (.bipush 32, 2) := by decide +kernel
theorem dX8_init_642 : decode cX8_init 642 = .ok (.castore, 1) := by decide +kernel
theorem dX8_init_643 : decode cX8_init 643 = .ok (.dup, 1) := by decide +kernel
theorem dX8_init_644 : decode cX8_init 644 = .ok (.bipush 8, 2) := by decide +kernel
theorem dX8_init_646 : decode cX8_init 646 = .ok (.bipush 119, 2) := by decide +kernel
theorem dX8_init_648 : decode cX8_init 648 = .ok (.castore, 1) := by decide +kernel
theorem dX8_init_649 : decode cX8_init 649 = .ok (.dup, 1) := by decide +kernel
theorem dX8_init_650 : decode cX8_init 650 = .ok (.bipush 9, 2) := by decide +kernel
theorem dX8_init_652 : decode cX8_init 652 = .ok (.bipush 111, 2) := by decide +kernel
theorem dX8_init_654 : decode cX8_init 654 = .ok (.castore, 1) := by decide +kernel
theorem dX8_init_655 : decode cX8_init 655 = .ok (.dup, 1) := by decide +kernel
theorem dX8_init_656 : decode cX8_init 656 = .ok (.bipush 10, 2) := by decide +kernel
theorem dX8_init_658 : decode cX8_init 658 = .ok (.bipush 114, 2) := by decide +kernel
theorem dX8_init_660 : decode cX8_init 660 = .ok (.castore, 1) := by decide +kernel
theorem dX8_init_661 : decode cX8_init 661 = .ok (.dup, 1) := by decide +kernel
theorem dX8_init_662 : decode cX8_init 662 = .ok (.bipush 11, 2) := by decide +kernel
theorem dX8_init_664 : decode cX8_init 664 = .ok (.bipush 107, 2) := by decide +kernel
theorem dX8_init_666 : decode cX8_init 666 = .ok (.castore, 1) := by decide +kernel
theorem dX8_init_667 : decode cX8_init 667 = .ok (.dup, 1) := by decide +kernel
theorem dX8_init_668 : decode cX8_init 668 = .ok (.bipush 12, 2) := by decide +kernel
theorem dX8_init_670 : decode cX8_init 670 = .ok (.bipush 32, 2) := by decide +kernel
theorem dX8_init_672 : decode cX8_init 672 = .ok (.castore, 1) := by decide +kernel
theorem dX8_init_673 : decode cX8_init 673 = .ok (.dup, 1) := by decide +kernel
theorem dX8_init_674 : decode cX8_init 674 = .ok (.bipush 13, 2) := by decide +kernel
theorem dX8_init_676 : decode cX8_init 676 = .ok (.bipush 32, 2) := by decide +kernel
theorem dX8_init_678 : decode cX8_init 678 = .ok (.castore, 1) := by decide +kernel
theorem dX8_init_679 : decode cX8_init 679 = .ok (.dup, 1) := by decide +kernel
theorem dX8_init_680 : decode cX8_init 680 = .ok (.bipush 14, 2) := by decide +kernel
theorem dX8_init_682 : decode cX8_init 682 = .ok (.bipush 32, 2) := by decide +kernel
theorem dX8_init_684 : decode cX8_init 684 = .ok (.castore, 1) := by decide +kernel
theorem dX8_init_685 : decode cX8_init 685 = .ok (.dup, 1) := by decide +kernel
theorem dX8_init_686 : decode cX8_init 686 = .ok (.bipush 15, 2) := by decide +kernel
theorem dX8_init_688 : decode cX8_init 688 = .ok (.bipush 32, 2) := by decide +kernel
theorem dX8_init_690 : decode cX8_init 690 = .ok (.castore, 1) := by decide +kernel
theorem dX8_init_691 : decode cX8_init 691 = .ok (.putfield 42, 3) := by decide +kernel
theorem dX8_init_694 : decode cX8_init 694 = .ok (.aload_n 0, 1) := by decide +kernel
theorem dX8_init_695 : decode cX8_init 695 = .ok (.iconst 4, 1) := by decide +kernel
theorem dX8_init_696 : decode cX8_init 696 = .ok (.newarray .int, 2) := by decide +kernel
theorem dX8_init_698 : decode cX8_init 698 = .ok (.putfield 45, 3) := by decide +kernel
theorem dX8_init_701 : decode cX8_init 701 = .ok (.aload_n 0, 1) := by decide +kernel
theorem dX8_init_702 : decode cX8_init 702 = .ok (.iconst 4, 1) := by decide +kernel
theorem dX8_init_703 : decode cX8_init 703 = .ok (.newarray .int, 2) := by decide +kernel
theorem dX8_init_705 : decode cX8_init 705 = .ok (.putfield 48, 3) := by decide +kernel
theorem dX8_init_708 : decode cX8_init 708 = .ok (.aload_n 0, 1) := by decide +kernel
theorem dX8_init_709 : decode cX8_init 709 = .ok (.sipush 160, 3) := by decide +kernel
theorem dX8_init_712 : decode cX8_init 712 = .ok (.newarray .int, 2) := by decide +kernel
theorem dX8_init_714 : decode cX8_init 714 = .ok (.putfield 51, 3) := by decide +kernel
theorem dX8_init_717 : decode cX8_init 717 = .ok (.aload_n 0, 1) := by decide +kernel
theorem dX8_init_718 : decode cX8_init 718 = .ok (.bipush 40, 2) := by decide +kernel
theorem dX8_init_720 : decode cX8_init 720 = .ok (.newarray .int, 2) := by decide +kernel
theorem dX8_init_722 : decode cX8_init 722 = .ok (.putfield 54, 3) := by decide +kernel
theorem dX8_init_725 : decode cX8_init 725 = .ok (.aload_n 0, 1) := by decide +kernel
theorem dX8_init_726 : decode cX8_init 726 = .ok (.getfield 9, 3) := by decide +kernel
theorem dX8_init_729 : decode cX8_init 729 = .ok (.iconst 2, 1) := by decide +kernel
theorem dX8_init_730 : decode cX8_init 730 = .ok (.iconst 1, 1) := by decide +kernel
theorem dX8_init_731 : decode cX8_init 731 = .ok (.iastore, 1) := by decide +kernel
theorem dX8_init_732 : decode cX8_init 732 = .ok (.iconst 0, 1) := by decide +kernel
theorem dX8_init_733 : decode cX8_init 733 = .ok (.istore_n 1, 1) := by decide +kernel
theorem dX8_init_734 : decode cX8_init 734 = .ok (.iload_n 1, 1) := by decide +kernel
theorem dX8_init_735 : decode cX8_init 735 = .ok (.iconst 4, 1) := by decide +kernel
theorem dX8_init_736 : decode cX8_init 736 = .ok (.if_icmp .ge 38, 3) := by decide +kernel
theorem dX8_init_739 : decode cX8_init 739 = .ok (.aload_n 0, 1) := by decide +kernel
theorem dX8_init_740 : decode cX8_init 740 = .ok (.getfield 9, 3) := by decide +kernel
theorem dX8_init_743 : decode cX8_init 743 = .ok (.bipush 43, 2) := by decide +kernel
theorem dX8_init_745 : decode cX8_init 745 = .ok (.iconst 4, 1) := by decide +kernel
theorem dX8_init_746 : decode cX8_init 746 = .ok (.iload_n 1, 1) := by decide +kernel
theorem dX8_init_747 : decode cX8_init 747 = .ok (.imul, 1) := by decide +kernel
theorem dX8_init_748 : decode cX8_init 748 = .ok (.iadd, 1) := by decide +kernel
theorem dX8_init_749 : decode cX8_init 749 = .ok (.iconst 2, 1) := by decide +kernel
theorem dX8_init_750 : decode cX8_init 750 = .ok (.iadd, 1) := by decide +kernel
theorem dX8_init_751 : decode cX8_init 751 = .ok (.bipush 60, 2) := by decide +kernel
theorem dX8_init_753 : decode cX8_init 753 = .ok (.iastore, 1) := by decide +kernel
theorem dX8_init_754 : decode cX8_init 754 = .ok (.aload_n 0, 1) := by decide +kernel
theorem dX8_init_755 : decode cX8_init 755 = .ok (.getfield 9, 3) := by decide +kernel
theorem dX8_init_758 : decode cX8_init 758 = .ok (.bipush 43, 2) := by decide +kernel
theorem dX8_init_760 : decode cX8_init 760 = .ok (.iconst 4, 1) := by decide +kernel
theorem dX8_init_761 : decode cX8_init 761 = .ok (.iload_n 1, 1) := by decide +kernel
theorem dX8_init_762 : decode cX8_init 762 = .ok (.imul, 1) := by decide +kernel
theorem dX8_init_763 : decode cX8_init 763 = .ok (.iadd, 1) := by decide +kernel
theorem dX8_init_764 : decode cX8_init 764 = .ok (.iconst 3, 1) := by decide +kernel
theorem dX8_init_765 : decode cX8_init 765 = .ok (.iadd, 1) := by decide +kernel
theorem dX8_init_766 : decode cX8_init 766 = .ok (.iload_n 1, 1) := by decide +kernel
theorem dX8_init_767 : decode cX8_init 767 = .ok (.iastore, 1) := by decide +kernel
theorem dX8_init_768 : decode cX8_init 768 = .ok (.iinc 1 1, 3) := by decide +kernel
theorem dX8_init_771 : decode cX8_init 771 = .ok (.goto (-37), 3) := by decide +kernel
theorem dX8_init_774 : decode cX8_init 774 = .ok (.iconst 0, 1) := by decide +kernel
theorem dX8_init_775 : decode cX8_init 775 = .ok (.istore_n 1, 1) := by decide +kernel
theorem dX8_init_776 : decode cX8_init 776 = .ok (.iload_n 1, 1) := by decide +kernel
theorem dX8_init_777 : decode cX8_init 777 = .ok (.bipush 6, 2) := by decide +kernel
theorem dX8_init_779 : decode cX8_init 779 = .ok (.if_icmp .ge 24, 3) := by decide +kernel
theorem dX8_init_782 : decode cX8_init 782 = .ok (.aload_n 0, 1) := by decide +kernel
theorem dX8_init_783 : decode cX8_init 783 = .ok (.getfield 9, 3) := by decide +kernel
theorem dX8_init_786 : decode cX8_init 786 = .ok (.bipush 59, 2) := by decide +kernel
theorem dX8_init_788 : decode cX8_init 788 = .ok (.iconst 4, 1) := by decide +kernel
theorem dX8_init_789 : decode cX8_init 789 = .ok (.iload_n 1, 1) := by decide +kernel
theorem dX8_init_790 : decode cX8_init 790 = .ok (.imul, 1) := by decide +kernel
theorem dX8_init_791 : decode cX8_init 791 = .ok (.iadd, 1) := by decide +kernel
theorem dX8_init_792 : decode cX8_init 792 = .ok (.iconst 1, 1) := by decide +kernel
theorem dX8_init_793 : decode cX8_init 793 = .ok (.iadd, 1) := by decide +kernel
theorem dX8_init_794 : decode cX8_init 794 = .ok (.ldc 57, 2) := by decide +kernel
theorem dX8_init_796 : decode cX8_init 796 = .ok (.iastore, 1) := by decide +kernel
theorem dX8_init_797 : decode cX8_init 797 = .ok (.iinc 1 1, 3) := by decide +kernel
theorem dX8_init_800 : decode cX8_init 800 = .ok (.goto (-24), 3) := by decide +kernel
theorem dX8_init_803 : decode cX8_init 803 = .ok (.iconst 0, 1) := by decide +kernel
theorem dX8_init_804 : decode cX8_init 804 = .ok (.istore_n 1, 1) := by decide +kernel
theorem dX8_init_805 : decode cX8_init 805 = .ok (.iload_n 1, 1) := by decide +kernel
theorem dX8_init_806 : decode cX8_init 806 = .ok (.bipush 10, 2) := by decide +kernel
theorem dX8_init_808 : decode cX8_init 808 = .ok (.if_icmp .ge 19, 3) := by decide +kernel
theorem dX8_init_811 : decode cX8_init 811 = .ok (.aload_n 0, 1) := by decide +kernel
theorem dX8_init_812 : decode cX8_init 812 = .ok (.getfield 9, 3) := by decide +kernel
theorem dX8_init_815 : decode cX8_init 815 = .ok (.bipush 83, 2) := by decide +kernel
theorem dX8_init_817 : decode cX8_init 817 = .ok (.iload_n 1, 1) := by decide +kernel
theorem dX8_init_818 : decode cX8_init 818 = .ok (.iadd, 1) := by decide +kernel
theorem dX8_init_819 : decode cX8_init 819 = .ok (.iconst (-1), 1) := by decide +kernel
theorem dX8_init_820 : decode cX8_init 820 = .ok (.iastore, 1) := by decide +kernel
theorem dX8_init_821 : decode cX8_init 821 = .ok (.iinc 1 1, 3) := by decide +kernel
theorem dX8_init_824 : decode cX8_init 824 = .ok (.goto (-19), 3) := by decide +kernel
theorem dX8_init_827 : decode cX8_init 827 = .ok (.return_, 1) := by decide +kernel
theorem dX8_no_0 : decode cX8_no 0 = .ok (.aload_n 0, 1) := by decide +kernel
theorem dX8_no_1 : decode cX8_no 1 = .ok (.getfield 19, 3) := by decide +kernel
theorem dX8_no_4 : decode cX8_no 4 = .ok (.iload_n 1, 1) := by decide +kernel
theorem dX8_no_5 : decode cX8_no 5 = .ok (.dup2, 1) := by decide +kernel
theorem dX8_no_6 : decode cX8_no 6 = .ok (.iaload, 1) := by decide +kernel
theorem dX8_no_7 : decode cX8_no 7 = .ok (.iconst 1, 1) := by decide +kernel
theorem dX8_no_8 : decode cX8_no 8 = .ok (.iadd, 1) := by decide +kernel
theorem dX8_no_9 : decode cX8_no 9 = .ok (.iastore, 1) := by decide +kernel
theorem dX8_no_10 : decode cX8_no 10 = .ok (.ldc 58, 2) := by decide +kernel
theorem dX8_no_12 : decode cX8_no 12 = .ok (.iload_n 1, 1) := by decide +kernel
theorem dX8_no_13 : decode cX8_no 13 = .ok (.isub, 1) := by decide +kernel
theorem dX8_no_14 : decode cX8_no 14 = .ok (.ireturn, 1) := by decide +kernel
theorem dX8_in1_0 : decode cX8_in1 0 = .ok (.iload_n 0, 1) := by decide +kernel
theorem dX8_in1_1 : decode cX8_in1 1 = .ok (.iload_n 1, 1) := by decide +kernel
theorem dX8_in1_2 : decode cX8_in1 2 = .ok (.if_icmp .lt 12, 3) := by decide +kernel
theorem dX8_in1_5 : decode cX8_in1 5 = .ok (.iload_n 0, 1) := by decide +kernel
theorem dX8_in1_6 : decode cX8_in1 6 = .ok (.iload_n 2, 1) := by decide +kernel
theorem dX8_in1_7 : decode cX8_in1 7 = .ok (.if_icmp .gt 7, 3) := by decide +kernel
theorem dX8_in1_10 : decode cX8_in1 10 = .ok (.iconst 1, 1) := by decide +kernel
theorem dX8_in1_11 : decode cX8_in1 11 = .ok (.goto 4, 3) := by decide +kernel
theorem dX8_in1_14 : decode cX8_in1 14 = .ok (.iconst 0, 1) := by decide +kernel
theorem dX8_in1_15 : decode cX8_in1 15 = .ok (.ireturn, 1) := by decide +kernel
theorem dX8_less_0 : decode cX8_less 0 = .ok (.iload_n 0, 1) := by decide +kernel
theorem dX8_less_1 : decode cX8_less 1 = .ok (.iload_n 1, 1) := by decide +kernel
theorem dX8_less_2 : decode cX8_less 2 = .ok (.if_icmp .ge 7, 3) := by decide +kernel
theorem dX8_less_5 : decode cX8_less 5 = .ok (.iload_n 0, 1) := by decide +kernel
theorem dX8_less_6 : decode cX8_less 6 = .ok (.goto 4, 3) := by decide +kernel
theorem dX8_less_9 : decode cX8_less 9 = .ok (.iload_n 1, 1) := by decide +kernel
theorem dX8_less_10 : decode cX8_less 10 = .ok (.ireturn, 1) := by decide +kernel
theorem dX8_greater_0 : decode cX8_greater 0 = .ok (.iload_n 0, 1) := by decide +kernel
theorem dX8_greater_1 : decode cX8_greater 1 = .ok (.iload_n 1, 1) := by decide +kernel
theorem dX8_greater_2 : decode cX8_greater 2 = .ok (.if_icmp .le 7, 3) := by decide +kernel
theorem dX8_greater_5 : decode cX8_greater 5 = .ok (.iload_n 0, 1) := by decide +kernel
theorem dX8_greater_6 : decode cX8_greater 6 = .ok (.goto 4, 3) := by decide +kernel
theorem dX8_greater_9 : decode cX8_greater 9 = .ok (.iload_n 1, 1) := by decide +kernel
theorem dX8_greater_10 : decode cX8_greater 10 = .ok (.ireturn, 1) := by decide +kernel
theorem dX8_bits_0 : decode cX8_bits 0 = .ok (.iconst 0, 1) := by decide +kernel
theorem dX8_bits_1 : decode cX8_bits 1 = .ok (.istore_n 1, 1) := by decide +kernel
theorem dX8_bits_2 : decode cX8_bits 2 = .ok (.iload_n 0, 1) := by decide +kernel
theorem dX8_bits_3 : decode cX8_bits 3 = .ok (.istore_n 2, 1) := by decide +kernel
theorem dX8_bits_4 : decode cX8_bits 4 = .ok (.iload_n 2, 1) := by decide +kernel
theorem dX8_bits_5 : decode cX8_bits 5 = .ok (.ifCond .eq 15, 3) := by decide +kernel
theorem dX8_bits_8 : decode cX8_bits 8 = .ok (.iinc 1 1, 3) := by decide +kernel
theorem dX8_bits_11 : decode cX8_bits 11 = .ok (.iload_n 2, 1) := by decide +kernel
theorem dX8_bits_12 : decode cX8_bits 12 = .ok (.iload_n 2, 1) := by decide +kernel
theorem dX8_bits_13 : decode cX8_bits 13 = .ok (.iconst 1, 1) := by decide +kernel
theorem dX8_bits_14 : decode cX8_bits 14 = .ok (.isub, 1) := by decide +kernel
theorem dX8_bits_15 : decode cX8_bits 15 = .ok (.iand, 1) := by decide +kernel
theorem dX8_bits_16 : decode cX8_bits 16 = .ok (.istore_n 2, 1) := by decide +kernel
theorem dX8_bits_17 : decode cX8_bits 17 = .ok (.goto (-13), 3) := by decide +kernel
theorem dX8_bits_20 : decode cX8_bits 20 = .ok (.iload_n 1, 1) := by decide +kernel
theorem dX8_bits_21 : decode cX8_bits 21 = .ok (.ireturn, 1) := by decide +kernel
theorem dX8_isIn_0 : decode cX8_isIn 0 = .ok (.iload_n 0, 1) := by decide +kernel
theorem dX8_isIn_1 : decode cX8_isIn 1 = .ok (.iload_n 1, 1) := by decide +kernel
theorem dX8_isIn_2 : decode cX8_isIn 2 = .ok (.ishr, 1) := by decide +kernel
theorem dX8_isIn_3 : decode cX8_isIn 3 = .ok (.iconst 1, 1) := by decide +kernel
theorem dX8_isIn_4 : decode cX8_isIn 4 = .ok (.iand, 1) := by decide +kernel
theorem dX8_isIn_5 : decode cX8_isIn 5 = .ok (.iconst 1, 1) := by decide +kernel
theorem dX8_isIn_6 : decode cX8_isIn 6 = .ok (.if_icmp .ne 7, 3) := by decide +kernel
theorem dX8_isIn_9 : decode cX8_isIn 9 = .ok (.iconst 1, 1) := by decide +kernel
theorem dX8_isIn_10 : decode cX8_isIn 10 = .ok (.goto 4, 3) := by decide +kernel
theorem dX8_isIn_13 : decode cX8_isIn 13 = .ok (.iconst 0, 1) := by decide +kernel
theorem dX8_isIn_14 : decode cX8_isIn 14 = .ok (.ireturn, 1) := by decide +kernel
theorem dX8_isPlace_0 : decode cX8_isPlace 0 = .ok (.iload_n 0, 1) := by decide +kernel
theorem dX8_isPlace_1 : decode cX8_isPlace 1 = .ok (.iconst 0, 1) := by decide +kernel
theorem dX8_isPlace_2 : decode cX8_isPlace 2 = .ok (.bipush 7, 2) := by decide +kernel
theorem dX8_isPlace_4 : decode cX8_isPlace 4 = .ok (.invokestatic 59, 3) := by decide +kernel
theorem dX8_isPlace_7 : decode cX8_isPlace 7 = .ok (.ireturn, 1) := by decide +kernel
theorem dX8_get_0 : decode cX8_get 0 = .ok (.aload_n 0, 1) := by decide +kernel
theorem dX8_get_1 : decode cX8_get 1 = .ok (.getfield 9, 3) := by decide +kernel
theorem dX8_get_4 : decode cX8_get 4 = .ok (.iconst 3, 1) := by decide +kernel
theorem dX8_get_5 : decode cX8_get 5 = .ok (.iconst 5, 1) := by decide +kernel
theorem dX8_get_6 : decode cX8_get 6 = .ok (.iload_n 1, 1) := by decide +kernel
theorem dX8_get_7 : decode cX8_get 7 = .ok (.imul, 1) := by decide +kernel
theorem dX8_get_8 : decode cX8_get 8 = .ok (.iadd, 1) := by decide +kernel
theorem dX8_get_9 : decode cX8_get 9 = .ok (.iload_n 2, 1) := by decide +kernel
theorem dX8_get_10 : decode cX8_get 10 = .ok (.iadd, 1) := by decide +kernel
theorem dX8_get_11 : decode cX8_get 11 = .ok (.iaload, 1) := by decide +kernel
theorem dX8_get_12 : decode cX8_get 12 = .ok (.ireturn, 1) := by decide +kernel
theorem dX8_puts_0 : decode cX8_puts 0 = .ok (.aload_n 0, 1) := by decide +kernel
theorem dX8_puts_1 : decode cX8_puts 1 = .ok (.getfield 9, 3) := by decide +kernel
theorem dX8_puts_4 : decode cX8_puts 4 = .ok (.iconst 3, 1) := by decide +kernel
theorem dX8_puts_5 : decode cX8_puts 5 = .ok (.iconst 5, 1) := by decide +kernel
theorem dX8_puts_6 : decode cX8_puts 6 = .ok (.iload_n 1, 1) := by decide +kernel
theorem dX8_puts_7 : decode cX8_puts 7 = .ok (.imul, 1) := by decide +kernel
theorem dX8_puts_8 : decode cX8_puts 8 = .ok (.iadd, 1) := by decide +kernel
theorem dX8_puts_9 : decode cX8_puts 9 = .ok (.iload_n 2, 1) := by decide +kernel
theorem dX8_puts_10 : decode cX8_puts 10 = .ok (.iadd, 1) := by decide +kernel
theorem dX8_puts_11 : decode cX8_puts 11 = .ok (.iload_n 3, 1) := by decide +kernel
theorem dX8_puts_12 : decode cX8_puts 12 = .ok (.iastore, 1) := by decide +kernel
theorem dX8_puts_13 : decode cX8_puts 13 = .ok (.return_, 1) := by decide +kernel
theorem dX8_isThere_0 : decode cX8_isThere 0 = .ok (.aload_n 0, 1) := by decide +kernel
theorem dX8_isThere_1 : decode cX8_isThere 1 = .ok (.iload_n 1, 1) := by decide +kernel
theorem dX8_isThere_2 : decode cX8_isThere 2 = .ok (.iconst 4, 1) := by decide +kernel
theorem dX8_isThere_3 : decode cX8_isThere 3 = .ok (.invokevirtual 63, 3) := by decide +kernel
theorem dX8_isThere_6 : decode cX8_isThere 6 = .ok (.iconst 1, 1) := by decide +kernel
theorem dX8_isThere_7 : decode cX8_isThere 7 = .ok (.if_icmp .ne 7, 3) := by decide +kernel
theorem dX8_isThere_10 : decode cX8_isThere 10 = .ok (.iconst 1, 1) := by decide +kernel
theorem dX8_isThere_11 : decode cX8_isThere 11 = .ok (.goto 4, 3) := by decide +kernel
theorem dX8_isThere_14 : decode cX8_isThere 14 = .ok (.iconst 0, 1) := by decide +kernel
theorem dX8_isThere_15 : decode cX8_isThere 15 = .ok (.ireturn, 1) := by decide +kernel
theorem dX8_isEgg_0 : decode cX8_isEgg 0 = .ok (.iload_n 1, 1) := by decide +kernel
theorem dX8_isEgg_1 : decode cX8_isEgg 1 = .ok (.invokestatic 67, 3) := by decide +kernel
theorem dX8_isEgg_4 : decode cX8_isEgg 4 = .ok (.ifCond .eq 15, 3) := by decide +kernel
theorem dX8_isEgg_7 : decode cX8_isEgg 7 = .ok (.aload_n 0, 1) := by decide +kernel
theorem dX8_isEgg_8 : decode cX8_isEgg 8 = .ok (.iload_n 1, 1) := by decide +kernel
theorem dX8_isEgg_9 : decode cX8_isEgg 9 = .ok (.invokevirtual 71, 3) := by decide +kernel
theorem dX8_isEgg_12 : decode cX8_isEgg 12 = .ok (.ifCond .eq 7, 3) := by decide +kernel
theorem dX8_isEgg_15 : decode cX8_isEgg 15 = .ok (.iconst 1, 1) := by decide +kernel
theorem dX8_isEgg_16 : decode cX8_isEgg 16 = .ok (.goto 4, 3) := by decide +kernel
theorem dX8_isEgg_19 : decode cX8_isEgg 19 = .ok (.iconst 0, 1) := by decide +kernel
theorem dX8_isEgg_20 : decode cX8_isEgg 20 = .ok (.ireturn, 1) := by decide +kernel
theorem dX8_isHen_0 : decode cX8_isHen 0 = .ok (.iload_n 0, 1) := by decide +kernel
theorem dX8_isHen_1 : decode cX8_isHen 1 = .ok (.iconst 0, 1) := by decide +kernel
theorem dX8_isHen_2 : decode cX8_isHen 2 = .ok (.iconst 3, 1) := by decide +kernel
theorem dX8_isHen_3 : decode cX8_isHen 3 = .ok (.invokestatic 59, 3) := by decide +kernel
theorem dX8_isHen_6 : decode cX8_isHen 6 = .ok (.ireturn, 1) := by decide +kernel
theorem dX8_isWork_0 : decode cX8_isWork 0 = .ok (.iload_n 0, 1) := by decide +kernel
theorem dX8_isWork_1 : decode cX8_isWork 1 = .ok (.iconst 0, 1) := by decide +kernel
theorem dX8_isWork_2 : decode cX8_isWork 2 = .ok (.iconst 5, 1) := by decide +kernel
theorem dX8_isWork_3 : decode cX8_isWork 3 = .ok (.invokestatic 59, 3) := by decide +kernel
theorem dX8_isWork_6 : decode cX8_isWork 6 = .ok (.ireturn, 1) := by decide +kernel
theorem dX8_hens_0 : decode cX8_hens 0 = .ok (.aload_n 0, 1) := by decide +kernel
theorem dX8_hens_1 : decode cX8_hens 1 = .ok (.getfield 9, 3) := by decide +kernel
theorem dX8_hens_4 : decode cX8_hens 4 = .ok (.bipush 43, 2) := by decide +kernel
theorem dX8_hens_6 : decode cX8_hens 6 = .ok (.iconst 4, 1) := by decide +kernel
theorem dX8_hens_7 : decode cX8_hens 7 = .ok (.iload_n 1, 1) := by decide +kernel
theorem dX8_hens_8 : decode cX8_hens 8 = .ok (.imul, 1) := by decide +kernel
theorem dX8_hens_9 : decode cX8_hens 9 = .ok (.iadd, 1) := by decide +kernel
theorem dX8_hens_10 : decode cX8_hens 10 = .ok (.iload_n 2, 1) := by decide +kernel
theorem dX8_hens_11 : decode cX8_hens 11 = .ok (.iadd, 1) := by decide +kernel
theorem dX8_hens_12 : decode cX8_hens 12 = .ok (.iaload, 1) := by decide +kernel
theorem dX8_hens_13 : decode cX8_hens 13 = .ok (.ireturn, 1) := by decide +kernel
theorem dX8_works_0 : decode cX8_works 0 = .ok (.aload_n 0, 1) := by decide +kernel
theorem dX8_works_1 : decode cX8_works 1 = .ok (.getfield 9, 3) := by decide +kernel
theorem dX8_works_4 : decode cX8_works 4 = .ok (.bipush 59, 2) := by decide +kernel
theorem dX8_works_6 : decode cX8_works 6 = .ok (.iconst 4, 1) := by decide +kernel
theorem dX8_works_7 : decode cX8_works 7 = .ok (.iload_n 1, 1) := by decide +kernel
theorem dX8_works_8 : decode cX8_works 8 = .ok (.imul, 1) := by decide +kernel
theorem dX8_works_9 : decode cX8_works 9 = .ok (.iadd, 1) := by decide +kernel
theorem dX8_works_10 : decode cX8_works 10 = .ok (.iload_n 2, 1) := by decide +kernel
theorem dX8_works_11 : decode cX8_works 11 = .ok (.iadd, 1) := by decide +kernel
theorem dX8_works_12 : decode cX8_works 12 = .ok (.iaload, 1) := by decide +kernel
theorem dX8_works_13 : decode cX8_works 13 = .ok (.ireturn, 1) := by decide +kernel
theorem dX8_setsAside_0 : decode cX8_setsAside 0 = .ok (.iconst 0, 1) := by decide +kernel
theorem dX8_setsAside_1 : decode cX8_setsAside 1 = .ok (.istore_n 1, 1) := by decide +kernel
theorem dX8_setsAside_2 : decode cX8_setsAside 2 = .ok (.iload_n 1, 1) := by decide +kernel
theorem dX8_setsAside_3 : decode cX8_setsAside 3 = .ok (.bipush 93, 2) := by decide +kernel
theorem dX8_setsAside_5 : decode cX8_setsAside 5 = .ok (.if_icmp .ge 21, 3) := by decide +kernel
theorem dX8_setsAside_8 : decode cX8_setsAside 8 = .ok (.aload_n 0, 1) := by decide +kernel
theorem dX8_setsAside_9 : decode cX8_setsAside 9 = .ok (.getfield 16, 3) := by decide +kernel
theorem dX8_setsAside_12 : decode cX8_setsAside 12 = .ok (.iload_n 1, 1) := by decide +kernel
theorem dX8_setsAside_13 : decode cX8_setsAside 13 = .ok (.aload_n 0, 1) := by decide +kernel
theorem dX8_setsAside_14 : decode cX8_setsAside 14 = .ok (.getfield 9, 3) := by decide +kernel
theorem dX8_setsAside_17 : decode cX8_setsAside 17 = .ok (.iload_n 1, 1) := by decide +kernel
theorem dX8_setsAside_18 : decode cX8_setsAside 18 = .ok (.iaload, 1) := by decide +kernel
theorem dX8_setsAside_19 : decode cX8_setsAside 19 = .ok (.iastore, 1) := by decide +kernel
theorem dX8_setsAside_20 : decode cX8_setsAside 20 = .ok (.iinc 1 1, 3) := by decide +kernel
theorem dX8_setsAside_23 : decode cX8_setsAside 23 = .ok (.goto (-21), 3) := by decide +kernel
theorem dX8_setsAside_26 : decode cX8_setsAside 26 = .ok (.return_, 1) := by decide +kernel
theorem dX8_laysBack_0 : decode cX8_laysBack 0 = .ok (.iconst 0, 1) := by decide +kernel
theorem dX8_laysBack_1 : decode cX8_laysBack 1 = .ok (.istore_n 1, 1) := by decide +kernel
theorem dX8_laysBack_2 : decode cX8_laysBack 2 = .ok (.iload_n 1, 1) := by decide +kernel
theorem dX8_laysBack_3 : decode cX8_laysBack 3 = .ok (.bipush 93, 2) := by decide +kernel
theorem dX8_laysBack_5 : decode cX8_laysBack 5 = .ok (.if_icmp .ge 21, 3) := by decide +kernel
theorem dX8_laysBack_8 : decode cX8_laysBack 8 = .ok (.aload_n 0, 1) := by decide +kernel
theorem dX8_laysBack_9 : decode cX8_laysBack 9 = .ok (.getfield 9, 3) := by decide +kernel
theorem dX8_laysBack_12 : decode cX8_laysBack 12 = .ok (.iload_n 1, 1) := by decide +kernel
theorem dX8_laysBack_13 : decode cX8_laysBack 13 = .ok (.aload_n 0, 1) := by decide +kernel
theorem dX8_laysBack_14 : decode cX8_laysBack 14 = .ok (.getfield 16, 3) := by decide +kernel
theorem dX8_laysBack_17 : decode cX8_laysBack 17 = .ok (.iload_n 1, 1) := by decide +kernel
theorem dX8_laysBack_18 : decode cX8_laysBack 18 = .ok (.iaload, 1) := by decide +kernel
theorem dX8_laysBack_19 : decode cX8_laysBack 19 = .ok (.iastore, 1) := by decide +kernel
theorem dX8_laysBack_20 : decode cX8_laysBack 20 = .ok (.iinc 1 1, 3) := by decide +kernel
theorem dX8_laysBack_23 : decode cX8_laysBack 23 = .ok (.goto (-21), 3) := by decide +kernel
theorem dX8_laysBack_26 : decode cX8_laysBack 26 = .ok (.return_, 1) := by decide +kernel
theorem dX8_minutesBy_0 : decode cX8_minutesBy 0 = .ok (.iconst 0, 1) := by decide +kernel
theorem dX8_minutesBy_1 : decode cX8_minutesBy 1 = .ok (.iload_n 1, 1) := by decide +kernel
theorem dX8_minutesBy_2 : decode cX8_minutesBy 2 = .ok (.iload_n 2, 1) := by decide +kernel
theorem dX8_minutesBy_3 : decode cX8_minutesBy 3 = .ok (.isub, 1) := by decide +kernel
theorem dX8_minutesBy_4 : decode cX8_minutesBy 4 = .ok (.invokestatic 74, 3) := by decide +kernel
theorem dX8_minutesBy_7 : decode cX8_minutesBy 7 = .ok (.istore 4, 2) := by decide +kernel
theorem dX8_minutesBy_9 : decode cX8_minutesBy 9 = .ok (.iload 4, 2) := by decide +kernel
theorem dX8_minutesBy_11 : decode cX8_minutesBy 11 = .ok (.iload_n 3, 1) := by decide +kernel
theorem dX8_minutesBy_12 : decode cX8_minutesBy 12 = .ok (.iconst 4, 1) := by decide +kernel
theorem dX8_minutesBy_13 : decode cX8_minutesBy 13 = .ok (.irem, 1) := by decide +kernel
theorem dX8_minutesBy_14 : decode cX8_minutesBy 14 = .ok (.ifCond .ne 8, 3) := by decide +kernel
theorem dX8_minutesBy_17 : decode cX8_minutesBy 17 = .ok (.bipush 10, 2) := by decide +kernel
theorem dX8_minutesBy_19 : decode cX8_minutesBy 19 = .ok (.goto 4, 3) := by decide +kernel
theorem dX8_minutesBy_22 : decode cX8_minutesBy 22 = .ok (.iconst 0, 1) := by decide +kernel
theorem dX8_minutesBy_23 : decode cX8_minutesBy 23 = .ok (.iadd, 1) := by decide +kernel
theorem dX8_minutesBy_24 : decode cX8_minutesBy 24 = .ok (.istore 5, 2) := by decide +kernel
theorem dX8_minutesBy_26 : decode cX8_minutesBy 26 = .ok (.iload 4, 2) := by decide +kernel
theorem dX8_minutesBy_28 : decode cX8_minutesBy 28 = .ok (.bipush 30, 2) := by decide +kernel
theorem dX8_minutesBy_30 : decode cX8_minutesBy 30 = .ok (.iconst 2, 1) := by decide +kernel
theorem dX8_minutesBy_31 : decode cX8_minutesBy 31 = .ok (.iload_n 2, 1) := by decide +kernel
theorem dX8_minutesBy_32 : decode cX8_minutesBy 32 = .ok (.imul, 1) := by decide +kernel
theorem dX8_minutesBy_33 : decode cX8_minutesBy 33 = .ok (.invokestatic 77, 3) := by decide +kernel
theorem dX8_minutesBy_36 : decode cX8_minutesBy 36 = .ok (.iadd, 1) := by decide +kernel
theorem dX8_minutesBy_37 : decode cX8_minutesBy 37 = .ok (.istore 6, 2) := by decide +kernel
theorem dX8_minutesBy_39 : decode cX8_minutesBy 39 = .ok (.iload_n 0, 1) := by decide +kernel
theorem dX8_minutesBy_40 : decode cX8_minutesBy 40 = .ok (.tableswitch 68 1 6 #[40, 43, 46, 52, 58, 63], 40) := by decide +kernel
theorem dX8_minutesBy_80 : decode cX8_minutesBy 80 = .ok (.iload 5, 2) := by decide +kernel
theorem dX8_minutesBy_82 : decode cX8_minutesBy 82 = .ok (.ireturn, 1) := by decide +kernel
theorem dX8_minutesBy_83 : decode cX8_minutesBy 83 = .ok (.iload 6, 2) := by decide +kernel
theorem dX8_minutesBy_85 : decode cX8_minutesBy 85 = .ok (.ireturn, 1) := by decide +kernel
theorem dX8_minutesBy_86 : decode cX8_minutesBy 86 = .ok (.iload 6, 2) := by decide +kernel
theorem dX8_minutesBy_88 : decode cX8_minutesBy 88 = .ok (.bipush 15, 2) := by decide +kernel
theorem dX8_minutesBy_90 : decode cX8_minutesBy 90 = .ok (.isub, 1) := by decide +kernel
theorem dX8_minutesBy_91 : decode cX8_minutesBy 91 = .ok (.ireturn, 1) := by decide +kernel
theorem dX8_minutesBy_92 : decode cX8_minutesBy 92 = .ok (.bipush 15, 2) := by decide +kernel
theorem dX8_minutesBy_94 : decode cX8_minutesBy 94 = .ok (.iload 6, 2) := by decide +kernel
theorem dX8_minutesBy_96 : decode cX8_minutesBy 96 = .ok (.isub, 1) := by decide +kernel
theorem dX8_minutesBy_97 : decode cX8_minutesBy 97 = .ok (.ireturn, 1) := by decide +kernel
theorem dX8_minutesBy_98 : decode cX8_minutesBy 98 = .ok (.iload 4, 2) := by decide +kernel
theorem dX8_minutesBy_100 : decode cX8_minutesBy 100 = .ok (.iconst 2, 1) := by decide +kernel
theorem dX8_minutesBy_101 : decode cX8_minutesBy 101 = .ok (.idiv, 1) := by decide +kernel
theorem dX8_minutesBy_102 : decode cX8_minutesBy 102 = .ok (.ireturn, 1) := by decide +kernel
theorem dX8_minutesBy_103 : decode cX8_minutesBy 103 = .ok (.iconst 2, 1) := by decide +kernel
theorem dX8_minutesBy_104 : decode cX8_minutesBy 104 = .ok (.iload 5, 2) := by decide +kernel
theorem dX8_minutesBy_106 : decode cX8_minutesBy 106 = .ok (.imul, 1) := by decide +kernel
theorem dX8_minutesBy_107 : decode cX8_minutesBy 107 = .ok (.ireturn, 1) := by decide +kernel
theorem dX8_minutesBy_108 : decode cX8_minutesBy 108 = .ok (.iload 4, 2) := by decide +kernel
theorem dX8_minutesBy_110 : decode cX8_minutesBy 110 = .ok (.ireturn, 1) := by decide +kernel
theorem dX8_keepsBy_0 : decode cX8_keepsBy 0 = .ok (.iload_n 0, 1) := by decide +kernel
theorem dX8_keepsBy_1 : decode cX8_keepsBy 1 = .ok (.iconst 2, 1) := by decide +kernel
theorem dX8_keepsBy_2 : decode cX8_keepsBy 2 = .ok (.if_icmp .eq 8, 3) := by decide +kernel
theorem dX8_keepsBy_5 : decode cX8_keepsBy 5 = .ok (.iload_n 0, 1) := by decide +kernel
theorem dX8_keepsBy_6 : decode cX8_keepsBy 6 = .ok (.iconst 3, 1) := by decide +kernel
theorem dX8_keepsBy_7 : decode cX8_keepsBy 7 = .ok (.if_icmp .ne 8, 3) := by decide +kernel
theorem dX8_keepsBy_10 : decode cX8_keepsBy 10 = .ok (.bipush 60, 2) := by decide +kernel
theorem dX8_keepsBy_12 : decode cX8_keepsBy 12 = .ok (.goto 35, 3) := by decide +kernel
theorem dX8_keepsBy_15 : decode cX8_keepsBy 15 = .ok (.iload_n 0, 1) := by decide +kernel
theorem dX8_keepsBy_16 : decode cX8_keepsBy 16 = .ok (.iconst 4, 1) := by decide +kernel
theorem dX8_keepsBy_17 : decode cX8_keepsBy 17 = .ok (.if_icmp .ne 8, 3) := by decide +kernel
theorem dX8_keepsBy_20 : decode cX8_keepsBy 20 = .ok (.bipush 9, 2) := by decide +kernel
theorem dX8_keepsBy_22 : decode cX8_keepsBy 22 = .ok (.goto 25, 3) := by decide +kernel
theorem dX8_keepsBy_25 : decode cX8_keepsBy 25 = .ok (.iload_n 0, 1) := by decide +kernel
theorem dX8_keepsBy_26 : decode cX8_keepsBy 26 = .ok (.iconst 5, 1) := by decide +kernel
theorem dX8_keepsBy_27 : decode cX8_keepsBy 27 = .ok (.if_icmp .ne 7, 3) := by decide +kernel
theorem dX8_keepsBy_30 : decode cX8_keepsBy 30 = .ok (.iconst 5, 1) := by decide +kernel
theorem dX8_keepsBy_31 : decode cX8_keepsBy 31 = .ok (.goto 16, 3) := by decide +kernel
theorem dX8_keepsBy_34 : decode cX8_keepsBy 34 = .ok (.iload_n 0, 1) := by decide +kernel
theorem dX8_keepsBy_35 : decode cX8_keepsBy 35 = .ok (.bipush 6, 2) := by decide +kernel
theorem dX8_keepsBy_37 : decode cX8_keepsBy 37 = .ok (.if_icmp .ne 8, 3) := by decide +kernel
theorem dX8_keepsBy_40 : decode cX8_keepsBy 40 = .ok (.bipush 20, 2) := by decide +kernel
theorem dX8_keepsBy_42 : decode cX8_keepsBy 42 = .ok (.goto 5, 3) := by decide +kernel
theorem dX8_keepsBy_45 : decode cX8_keepsBy 45 = .ok (.bipush 30, 2) := by decide +kernel
theorem dX8_keepsBy_47 : decode cX8_keepsBy 47 = .ok (.ireturn, 1) := by decide +kernel
theorem dX8_minutes_0 : decode cX8_minutes 0 = .ok (.aload_n 0, 1) := by decide +kernel
theorem dX8_minutes_1 : decode cX8_minutes 1 = .ok (.iload_n 1, 1) := by decide +kernel
theorem dX8_minutes_2 : decode cX8_minutes 2 = .ok (.iconst 0, 1) := by decide +kernel
theorem dX8_minutes_3 : decode cX8_minutes 3 = .ok (.invokevirtual 63, 3) := by decide +kernel
theorem dX8_minutes_6 : decode cX8_minutes 6 = .ok (.aload_n 0, 1) := by decide +kernel
theorem dX8_minutes_7 : decode cX8_minutes 7 = .ok (.iload_n 1, 1) := by decide +kernel
theorem dX8_minutes_8 : decode cX8_minutes 8 = .ok (.iconst 1, 1) := by decide +kernel
theorem dX8_minutes_9 : decode cX8_minutes 9 = .ok (.invokevirtual 63, 3) := by decide +kernel
theorem dX8_minutes_12 : decode cX8_minutes 12 = .ok (.aload_n 0, 1) := by decide +kernel
theorem dX8_minutes_13 : decode cX8_minutes 13 = .ok (.iload_n 1, 1) := by decide +kernel
theorem dX8_minutes_14 : decode cX8_minutes 14 = .ok (.iconst 2, 1) := by decide +kernel
theorem dX8_minutes_15 : decode cX8_minutes 15 = .ok (.invokevirtual 63, 3) := by decide +kernel
theorem dX8_minutes_18 : decode cX8_minutes 18 = .ok (.aload_n 0, 1) := by decide +kernel
theorem dX8_minutes_19 : decode cX8_minutes 19 = .ok (.getfield 9, 3) := by decide +kernel
theorem dX8_minutes_22 : decode cX8_minutes 22 = .ok (.iconst 0, 1) := by decide +kernel
theorem dX8_minutes_23 : decode cX8_minutes 23 = .ok (.iaload, 1) := by decide +kernel
theorem dX8_minutes_24 : decode cX8_minutes 24 = .ok (.invokestatic 80, 3) := by decide +kernel
theorem dX8_minutes_27 : decode cX8_minutes 27 = .ok (.ireturn, 1) := by decide +kernel
theorem dX8_then_0 : decode cX8_then 0 = .ok (.iload 4, 2) := by decide +kernel
theorem dX8_then_2 : decode cX8_then 2 = .ok (.ifCond .le 18, 3) := by decide +kernel
theorem dX8_then_5 : decode cX8_then 5 = .ok (.iload_n 3, 1) := by decide +kernel
theorem dX8_then_6 : decode cX8_then 6 = .ok (.iload 4, 2) := by decide +kernel
theorem dX8_then_8 : decode cX8_then 8 = .ok (.iadd, 1) := by decide +kernel
theorem dX8_then_9 : decode cX8_then 9 = .ok (.iload_n 2, 1) := by decide +kernel
theorem dX8_then_10 : decode cX8_then 10 = .ok (.invokestatic 84, 3) := by decide +kernel
theorem dX8_then_13 : decode cX8_then 13 = .ok (.if_icmp .le 7, 3) := by decide +kernel
theorem dX8_then_16 : decode cX8_then 16 = .ok (.iconst 1, 1) := by decide +kernel
theorem dX8_then_17 : decode cX8_then 17 = .ok (.goto 4, 3) := by decide +kernel
theorem dX8_then_20 : decode cX8_then 20 = .ok (.iconst 0, 1) := by decide +kernel
theorem dX8_then_21 : decode cX8_then 21 = .ok (.istore 5, 2) := by decide +kernel
theorem dX8_then_23 : decode cX8_then 23 = .ok (.iload 5, 2) := by decide +kernel
theorem dX8_then_25 : decode cX8_then 25 = .ok (.ifCond .eq 7, 3) := by decide +kernel
theorem dX8_then_28 : decode cX8_then 28 = .ok (.iconst 0, 1) := by decide +kernel
theorem dX8_then_29 : decode cX8_then 29 = .ok (.goto 31, 3) := by decide +kernel
theorem dX8_then_32 : decode cX8_then 32 = .ok (.iload_n 2, 1) := by decide +kernel
theorem dX8_then_33 : decode cX8_then 33 = .ok (.aload_n 0, 1) := by decide +kernel
theorem dX8_then_34 : decode cX8_then 34 = .ok (.iload_n 1, 1) := by decide +kernel
theorem dX8_then_35 : decode cX8_then 35 = .ok (.iconst 1, 1) := by decide +kernel
theorem dX8_then_36 : decode cX8_then 36 = .ok (.invokevirtual 63, 3) := by decide +kernel
theorem dX8_then_39 : decode cX8_then 39 = .ok (.iload_n 3, 1) := by decide +kernel
theorem dX8_then_40 : decode cX8_then 40 = .ok (.iload 4, 2) := by decide +kernel
theorem dX8_then_42 : decode cX8_then 42 = .ok (.iadd, 1) := by decide +kernel
theorem dX8_then_43 : decode cX8_then 43 = .ok (.ldc 57, 2) := by decide +kernel
theorem dX8_then_45 : decode cX8_then 45 = .ok (.aload_n 0, 1) := by decide +kernel
theorem dX8_then_46 : decode cX8_then 46 = .ok (.getfield 9, 3) := by decide +kernel
theorem dX8_then_49 : decode cX8_then 49 = .ok (.iconst 0, 1) := by decide +kernel
theorem dX8_then_50 : decode cX8_then 50 = .ok (.iaload, 1) := by decide +kernel
theorem dX8_then_51 : decode cX8_then 51 = .ok (.iload 4, 2) := by decide +kernel
theorem dX8_then_53 : decode cX8_then 53 = .ok (.iadd, 1) := by decide +kernel
theorem dX8_then_54 : decode cX8_then 54 = .ok (.invokestatic 77, 3) := by decide +kernel
theorem dX8_then_57 : decode cX8_then 57 = .ok (.invokestatic 80, 3) := by decide +kernel
theorem dX8_then_60 : decode cX8_then 60 = .ok (.ireturn, 1) := by decide +kernel
theorem dX8_eggs_0 : decode cX8_eggs 0 = .ok (.iconst 0, 1) := by decide +kernel
theorem dX8_eggs_1 : decode cX8_eggs 1 = .ok (.istore_n 1, 1) := by decide +kernel
theorem dX8_eggs_2 : decode cX8_eggs 2 = .ok (.iconst 0, 1) := by decide +kernel
theorem dX8_eggs_3 : decode cX8_eggs 3 = .ok (.istore_n 2, 1) := by decide +kernel
theorem dX8_eggs_4 : decode cX8_eggs 4 = .ok (.iload_n 2, 1) := by decide +kernel
theorem dX8_eggs_5 : decode cX8_eggs 5 = .ok (.bipush 8, 2) := by decide +kernel
theorem dX8_eggs_7 : decode cX8_eggs 7 = .ok (.if_icmp .ge 27, 3) := by decide +kernel
theorem dX8_eggs_10 : decode cX8_eggs 10 = .ok (.iload_n 1, 1) := by decide +kernel
theorem dX8_eggs_11 : decode cX8_eggs 11 = .ok (.aload_n 0, 1) := by decide +kernel
theorem dX8_eggs_12 : decode cX8_eggs 12 = .ok (.iload_n 2, 1) := by decide +kernel
theorem dX8_eggs_13 : decode cX8_eggs 13 = .ok (.invokevirtual 71, 3) := by decide +kernel
theorem dX8_eggs_16 : decode cX8_eggs 16 = .ok (.ifCond .eq 9, 3) := by decide +kernel
theorem dX8_eggs_19 : decode cX8_eggs 19 = .ok (.iconst 1, 1) := by decide +kernel
theorem dX8_eggs_20 : decode cX8_eggs 20 = .ok (.iload_n 2, 1) := by decide +kernel
theorem dX8_eggs_21 : decode cX8_eggs 21 = .ok (.ishl, 1) := by decide +kernel
theorem dX8_eggs_22 : decode cX8_eggs 22 = .ok (.goto 4, 3) := by decide +kernel
theorem dX8_eggs_25 : decode cX8_eggs 25 = .ok (.iconst 0, 1) := by decide +kernel
theorem dX8_eggs_26 : decode cX8_eggs 26 = .ok (.ior, 1) := by decide +kernel
theorem dX8_eggs_27 : decode cX8_eggs 27 = .ok (.istore_n 1, 1) := by decide +kernel
theorem dX8_eggs_28 : decode cX8_eggs 28 = .ok (.iinc 2 1, 3) := by decide +kernel
theorem dX8_eggs_31 : decode cX8_eggs 31 = .ok (.goto (-27), 3) := by decide +kernel
theorem dX8_eggs_34 : decode cX8_eggs 34 = .ok (.iload_n 1, 1) := by decide +kernel
theorem dX8_eggs_35 : decode cX8_eggs 35 = .ok (.ireturn, 1) := by decide +kernel
theorem dX8_sumOf_0 : decode cX8_sumOf 0 = .ok (.iconst 0, 1) := by decide +kernel
theorem dX8_sumOf_1 : decode cX8_sumOf 1 = .ok (.istore_n 2, 1) := by decide +kernel
theorem dX8_sumOf_2 : decode cX8_sumOf 2 = .ok (.iconst 0, 1) := by decide +kernel
theorem dX8_sumOf_3 : decode cX8_sumOf 3 = .ok (.istore_n 3, 1) := by decide +kernel
theorem dX8_sumOf_4 : decode cX8_sumOf 4 = .ok (.iload_n 3, 1) := by decide +kernel
theorem dX8_sumOf_5 : decode cX8_sumOf 5 = .ok (.bipush 8, 2) := by decide +kernel
theorem dX8_sumOf_7 : decode cX8_sumOf 7 = .ok (.if_icmp .ge 29, 3) := by decide +kernel
theorem dX8_sumOf_10 : decode cX8_sumOf 10 = .ok (.iload_n 2, 1) := by decide +kernel
theorem dX8_sumOf_11 : decode cX8_sumOf 11 = .ok (.iload_n 1, 1) := by decide +kernel
theorem dX8_sumOf_12 : decode cX8_sumOf 12 = .ok (.iload_n 3, 1) := by decide +kernel
theorem dX8_sumOf_13 : decode cX8_sumOf 13 = .ok (.invokestatic 88, 3) := by decide +kernel
theorem dX8_sumOf_16 : decode cX8_sumOf 16 = .ok (.ifCond .eq 11, 3) := by decide +kernel
theorem dX8_sumOf_19 : decode cX8_sumOf 19 = .ok (.aload_n 0, 1) := by decide +kernel
theorem dX8_sumOf_20 : decode cX8_sumOf 20 = .ok (.iload_n 3, 1) := by decide +kernel
theorem dX8_sumOf_21 : decode cX8_sumOf 21 = .ok (.invokevirtual 92, 3) := by decide +kernel
theorem dX8_sumOf_24 : decode cX8_sumOf 24 = .ok (.goto 4, 3) := by decide +kernel
theorem dX8_sumOf_27 : decode cX8_sumOf 27 = .ok (.iconst 0, 1) := by decide +kernel
theorem dX8_sumOf_28 : decode cX8_sumOf 28 = .ok (.iadd, 1) := by decide +kernel
theorem dX8_sumOf_29 : decode cX8_sumOf 29 = .ok (.istore_n 2, 1) := by decide +kernel
theorem dX8_sumOf_30 : decode cX8_sumOf 30 = .ok (.iinc 3 1, 3) := by decide +kernel
theorem dX8_sumOf_33 : decode cX8_sumOf 33 = .ok (.goto (-29), 3) := by decide +kernel
theorem dX8_sumOf_36 : decode cX8_sumOf 36 = .ok (.iload_n 2, 1) := by decide +kernel
theorem dX8_sumOf_37 : decode cX8_sumOf 37 = .ok (.ireturn, 1) := by decide +kernel
theorem dX8_allMinutes_0 : decode cX8_allMinutes 0 = .ok (.aload_n 0, 1) := by decide +kernel
theorem dX8_allMinutes_1 : decode cX8_allMinutes 1 = .ok (.aload_n 0, 1) := by decide +kernel
theorem dX8_allMinutes_2 : decode cX8_allMinutes 2 = .ok (.invokevirtual 95, 3) := by decide +kernel
theorem dX8_allMinutes_5 : decode cX8_allMinutes 5 = .ok (.invokevirtual 99, 3) := by decide +kernel
theorem dX8_allMinutes_8 : decode cX8_allMinutes 8 = .ok (.ireturn, 1) := by decide +kernel
theorem dX8_free_0 : decode cX8_free 0 = .ok (.iconst 0, 1) := by decide +kernel
theorem dX8_free_1 : decode cX8_free 1 = .ok (.istore_n 1, 1) := by decide +kernel
theorem dX8_free_2 : decode cX8_free 2 = .ok (.iload_n 1, 1) := by decide +kernel
theorem dX8_free_3 : decode cX8_free 3 = .ok (.bipush 8, 2) := by decide +kernel
theorem dX8_free_5 : decode cX8_free 5 = .ok (.if_icmp .ge 17, 3) := by decide +kernel
theorem dX8_free_8 : decode cX8_free 8 = .ok (.aload_n 0, 1) := by decide +kernel
theorem dX8_free_9 : decode cX8_free 9 = .ok (.iload_n 1, 1) := by decide +kernel
theorem dX8_free_10 : decode cX8_free 10 = .ok (.invokevirtual 71, 3) := by decide +kernel
theorem dX8_free_13 : decode cX8_free 13 = .ok (.ifCond .eq 9, 3) := by decide +kernel
theorem dX8_free_16 : decode cX8_free 16 = .ok (.iinc 1 1, 3) := by decide +kernel
theorem dX8_free_19 : decode cX8_free 19 = .ok (.goto (-17), 3) := by decide +kernel
theorem dX8_free_22 : decode cX8_free 22 = .ok (.iload_n 1, 1) := by decide +kernel
theorem dX8_free_23 : decode cX8_free 23 = .ok (.bipush 8, 2) := by decide +kernel
theorem dX8_free_25 : decode cX8_free 25 = .ok (.if_icmp .ge 7, 3) := by decide +kernel
theorem dX8_free_28 : decode cX8_free 28 = .ok (.iload_n 1, 1) := by decide +kernel
theorem dX8_free_29 : decode cX8_free 29 = .ok (.goto 4, 3) := by decide +kernel
theorem dX8_free_32 : decode cX8_free 32 = .ok (.iconst (-1), 1) := by decide +kernel
theorem dX8_free_33 : decode cX8_free 33 = .ok (.ireturn, 1) := by decide +kernel
theorem dX8_lays_0 : decode cX8_lays 0 = .ok (.aload_n 0, 1) := by decide +kernel
theorem dX8_lays_1 : decode cX8_lays 1 = .ok (.invokevirtual 102, 3) := by decide +kernel
theorem dX8_lays_4 : decode cX8_lays 4 = .ok (.istore 5, 2) := by decide +kernel
theorem dX8_lays_6 : decode cX8_lays 6 = .ok (.iload 5, 2) := by decide +kernel
theorem dX8_lays_8 : decode cX8_lays 8 = .ok (.ifCond .lt 44, 3) := by decide +kernel
theorem dX8_lays_11 : decode cX8_lays 11 = .ok (.aload_n 0, 1) := by decide +kernel
theorem dX8_lays_12 : decode cX8_lays 12 = .ok (.iload 5, 2) := by decide +kernel
theorem dX8_lays_14 : decode cX8_lays 14 = .ok (.iconst 0, 1) := by decide +kernel
theorem dX8_lays_15 : decode cX8_lays 15 = .ok (.iload_n 1, 1) := by decide +kernel
theorem dX8_lays_16 : decode cX8_lays 16 = .ok (.invokevirtual 105, 3) := by decide +kernel
theorem dX8_lays_19 : decode cX8_lays 19 = .ok (.aload_n 0, 1) := by decide +kernel
theorem dX8_lays_20 : decode cX8_lays 20 = .ok (.iload 5, 2) := by decide +kernel
theorem dX8_lays_22 : decode cX8_lays 22 = .ok (.iconst 1, 1) := by decide +kernel
theorem dX8_lays_23 : decode cX8_lays 23 = .ok (.iload_n 2, 1) := by decide +kernel
theorem dX8_lays_24 : decode cX8_lays 24 = .ok (.invokevirtual 105, 3) := by decide +kernel
theorem dX8_lays_27 : decode cX8_lays 27 = .ok (.aload_n 0, 1) := by decide +kernel
theorem dX8_lays_28 : decode cX8_lays 28 = .ok (.iload 5, 2) := by decide +kernel
theorem dX8_lays_30 : decode cX8_lays 30 = .ok (.iconst 2, 1) := by decide +kernel
theorem dX8_lays_31 : decode cX8_lays 31 = .ok (.iload_n 3, 1) := by decide +kernel
theorem dX8_lays_32 : decode cX8_lays 32 = .ok (.invokevirtual 105, 3) := by decide +kernel
theorem dX8_lays_35 : decode cX8_lays 35 = .ok (.aload_n 0, 1) := by decide +kernel
theorem dX8_lays_36 : decode cX8_lays 36 = .ok (.iload 5, 2) := by decide +kernel
theorem dX8_lays_38 : decode cX8_lays 38 = .ok (.iconst 3, 1) := by decide +kernel
theorem dX8_lays_39 : decode cX8_lays 39 = .ok (.iload 4, 2) := by decide +kernel
theorem dX8_lays_41 : decode cX8_lays 41 = .ok (.invokevirtual 105, 3) := by decide +kernel
theorem dX8_lays_44 : decode cX8_lays 44 = .ok (.aload_n 0, 1) := by decide +kernel
theorem dX8_lays_45 : decode cX8_lays 45 = .ok (.iload 5, 2) := by decide +kernel
theorem dX8_lays_47 : decode cX8_lays 47 = .ok (.iconst 4, 1) := by decide +kernel
theorem dX8_lays_48 : decode cX8_lays 48 = .ok (.iconst 1, 1) := by decide +kernel
theorem dX8_lays_49 : decode cX8_lays 49 = .ok (.invokevirtual 105, 3) := by decide +kernel
theorem dX8_lays_52 : decode cX8_lays 52 = .ok (.iload 5, 2) := by decide +kernel
theorem dX8_lays_54 : decode cX8_lays 54 = .ok (.ireturn, 1) := by decide +kernel
theorem dX8_goesEgg_0 : decode cX8_goesEgg 0 = .ok (.aload_n 0, 1) := by decide +kernel
theorem dX8_goesEgg_1 : decode cX8_goesEgg 1 = .ok (.iload_n 1, 1) := by decide +kernel
theorem dX8_goesEgg_2 : decode cX8_goesEgg 2 = .ok (.iconst 4, 1) := by decide +kernel
theorem dX8_goesEgg_3 : decode cX8_goesEgg 3 = .ok (.iconst 0, 1) := by decide +kernel
theorem dX8_goesEgg_4 : decode cX8_goesEgg 4 = .ok (.invokevirtual 105, 3) := by decide +kernel
theorem dX8_goesEgg_7 : decode cX8_goesEgg 7 = .ok (.aload_n 0, 1) := by decide +kernel
theorem dX8_goesEgg_8 : decode cX8_goesEgg 8 = .ok (.iload_n 1, 1) := by decide +kernel
theorem dX8_goesEgg_9 : decode cX8_goesEgg 9 = .ok (.iconst 0, 1) := by decide +kernel
theorem dX8_goesEgg_10 : decode cX8_goesEgg 10 = .ok (.iconst 0, 1) := by decide +kernel
theorem dX8_goesEgg_11 : decode cX8_goesEgg 11 = .ok (.invokevirtual 105, 3) := by decide +kernel
theorem dX8_goesEgg_14 : decode cX8_goesEgg 14 = .ok (.aload_n 0, 1) := by decide +kernel
theorem dX8_goesEgg_15 : decode cX8_goesEgg 15 = .ok (.iload_n 1, 1) := by decide +kernel
theorem dX8_goesEgg_16 : decode cX8_goesEgg 16 = .ok (.iconst 1, 1) := by decide +kernel
theorem dX8_goesEgg_17 : decode cX8_goesEgg 17 = .ok (.iconst 0, 1) := by decide +kernel
theorem dX8_goesEgg_18 : decode cX8_goesEgg 18 = .ok (.invokevirtual 105, 3) := by decide +kernel
theorem dX8_goesEgg_21 : decode cX8_goesEgg 21 = .ok (.aload_n 0, 1) := by decide +kernel
theorem dX8_goesEgg_22 : decode cX8_goesEgg 22 = .ok (.iload_n 1, 1) := by decide +kernel
theorem dX8_goesEgg_23 : decode cX8_goesEgg 23 = .ok (.iconst 2, 1) := by decide +kernel
theorem dX8_goesEgg_24 : decode cX8_goesEgg 24 = .ok (.iconst 0, 1) := by decide +kernel
theorem dX8_goesEgg_25 : decode cX8_goesEgg 25 = .ok (.invokevirtual 105, 3) := by decide +kernel
theorem dX8_goesEgg_28 : decode cX8_goesEgg 28 = .ok (.aload_n 0, 1) := by decide +kernel
theorem dX8_goesEgg_29 : decode cX8_goesEgg 29 = .ok (.iload_n 1, 1) := by decide +kernel
theorem dX8_goesEgg_30 : decode cX8_goesEgg 30 = .ok (.iconst 3, 1) := by decide +kernel
theorem dX8_goesEgg_31 : decode cX8_goesEgg 31 = .ok (.iconst 0, 1) := by decide +kernel
theorem dX8_goesEgg_32 : decode cX8_goesEgg 32 = .ok (.invokevirtual 105, 3) := by decide +kernel
theorem dX8_goesEgg_35 : decode cX8_goesEgg 35 = .ok (.return_, 1) := by decide +kernel
theorem dX8_day_0 : decode cX8_day 0 = .ok (.iconst 0, 1) := by decide +kernel
theorem dX8_day_1 : decode cX8_day 1 = .ok (.istore_n 1, 1) := by decide +kernel
theorem dX8_day_2 : decode cX8_day 2 = .ok (.iconst 0, 1) := by decide +kernel
theorem dX8_day_3 : decode cX8_day 3 = .ok (.istore_n 2, 1) := by decide +kernel
theorem dX8_day_4 : decode cX8_day 4 = .ok (.iload_n 2, 1) := by decide +kernel
theorem dX8_day_5 : decode cX8_day 5 = .ok (.bipush 8, 2) := by decide +kernel
theorem dX8_day_7 : decode cX8_day 7 = .ok (.if_icmp .ge 57, 3) := by decide +kernel
theorem dX8_day_10 : decode cX8_day 10 = .ok (.aload_n 0, 1) := by decide +kernel
theorem dX8_day_11 : decode cX8_day 11 = .ok (.iload_n 2, 1) := by decide +kernel
theorem dX8_day_12 : decode cX8_day 12 = .ok (.invokevirtual 71, 3) := by decide +kernel
theorem dX8_day_15 : decode cX8_day 15 = .ok (.ifCond .eq 43, 3) := by decide +kernel
theorem dX8_day_18 : decode cX8_day 18 = .ok (.aload_n 0, 1) := by decide +kernel
theorem dX8_day_19 : decode cX8_day 19 = .ok (.iload_n 2, 1) := by decide +kernel
theorem dX8_day_20 : decode cX8_day 20 = .ok (.iconst 2, 1) := by decide +kernel
theorem dX8_day_21 : decode cX8_day 21 = .ok (.aload_n 0, 1) := by decide +kernel
theorem dX8_day_22 : decode cX8_day 22 = .ok (.iload_n 2, 1) := by decide +kernel
theorem dX8_day_23 : decode cX8_day 23 = .ok (.iconst 2, 1) := by decide +kernel
theorem dX8_day_24 : decode cX8_day 24 = .ok (.invokevirtual 63, 3) := by decide +kernel
theorem dX8_day_27 : decode cX8_day 27 = .ok (.iconst 1, 1) := by decide +kernel
theorem dX8_day_28 : decode cX8_day 28 = .ok (.iadd, 1) := by decide +kernel
theorem dX8_day_29 : decode cX8_day 29 = .ok (.invokevirtual 105, 3) := by decide +kernel
theorem dX8_day_32 : decode cX8_day 32 = .ok (.aload_n 0, 1) := by decide +kernel
theorem dX8_day_33 : decode cX8_day 33 = .ok (.iload_n 2, 1) := by decide +kernel
theorem dX8_day_34 : decode cX8_day 34 = .ok (.iconst 2, 1) := by decide +kernel
theorem dX8_day_35 : decode cX8_day 35 = .ok (.invokevirtual 63, 3) := by decide +kernel
theorem dX8_day_38 : decode cX8_day 38 = .ok (.aload_n 0, 1) := by decide +kernel
theorem dX8_day_39 : decode cX8_day 39 = .ok (.iload_n 2, 1) := by decide +kernel
theorem dX8_day_40 : decode cX8_day 40 = .ok (.iconst 0, 1) := by decide +kernel
theorem dX8_day_41 : decode cX8_day 41 = .ok (.invokevirtual 63, 3) := by decide +kernel
theorem dX8_day_44 : decode cX8_day 44 = .ok (.invokestatic 84, 3) := by decide +kernel
theorem dX8_day_47 : decode cX8_day 47 = .ok (.if_icmp .le 11, 3) := by decide +kernel
theorem dX8_day_50 : decode cX8_day 50 = .ok (.aload_n 0, 1) := by decide +kernel
theorem dX8_day_51 : decode cX8_day 51 = .ok (.iload_n 2, 1) := by decide +kernel
theorem dX8_day_52 : decode cX8_day 52 = .ok (.invokevirtual 109, 3) := by decide +kernel
theorem dX8_day_55 : decode cX8_day 55 = .ok (.iinc 1 1, 3) := by decide +kernel
theorem dX8_day_58 : decode cX8_day 58 = .ok (.iinc 2 1, 3) := by decide +kernel
theorem dX8_day_61 : decode cX8_day 61 = .ok (.goto (-57), 3) := by decide +kernel
theorem dX8_day_64 : decode cX8_day 64 = .ok (.aload_n 0, 1) := by decide +kernel
theorem dX8_day_65 : decode cX8_day 65 = .ok (.getfield 9, 3) := by decide +kernel
theorem dX8_day_68 : decode cX8_day 68 = .ok (.iconst 1, 1) := by decide +kernel
theorem dX8_day_69 : decode cX8_day 69 = .ok (.ldc 57, 2) := by decide +kernel
theorem dX8_day_71 : decode cX8_day 71 = .ok (.aload_n 0, 1) := by decide +kernel
theorem dX8_day_72 : decode cX8_day 72 = .ok (.getfield 9, 3) := by decide +kernel
theorem dX8_day_75 : decode cX8_day 75 = .ok (.iconst 1, 1) := by decide +kernel
theorem dX8_day_76 : decode cX8_day 76 = .ok (.iaload, 1) := by decide +kernel
theorem dX8_day_77 : decode cX8_day 77 = .ok (.iload_n 1, 1) := by decide +kernel
theorem dX8_day_78 : decode cX8_day 78 = .ok (.iadd, 1) := by decide +kernel
theorem dX8_day_79 : decode cX8_day 79 = .ok (.invokestatic 77, 3) := by decide +kernel
theorem dX8_day_82 : decode cX8_day 82 = .ok (.iastore, 1) := by decide +kernel
theorem dX8_day_83 : decode cX8_day 83 = .ok (.aload_n 0, 1) := by decide +kernel
theorem dX8_day_84 : decode cX8_day 84 = .ok (.getfield 9, 3) := by decide +kernel
theorem dX8_day_87 : decode cX8_day 87 = .ok (.iconst 0, 1) := by decide +kernel
theorem dX8_day_88 : decode cX8_day 88 = .ok (.ldc 57, 2) := by decide +kernel
theorem dX8_day_90 : decode cX8_day 90 = .ok (.aload_n 0, 1) := by decide +kernel
theorem dX8_day_91 : decode cX8_day 91 = .ok (.getfield 9, 3) := by decide +kernel
theorem dX8_day_94 : decode cX8_day 94 = .ok (.iconst 0, 1) := by decide +kernel
theorem dX8_day_95 : decode cX8_day 95 = .ok (.iaload, 1) := by decide +kernel
theorem dX8_day_96 : decode cX8_day 96 = .ok (.iconst 1, 1) := by decide +kernel
theorem dX8_day_97 : decode cX8_day 97 = .ok (.iadd, 1) := by decide +kernel
theorem dX8_day_98 : decode cX8_day 98 = .ok (.invokestatic 77, 3) := by decide +kernel
theorem dX8_day_101 : decode cX8_day 101 = .ok (.iastore, 1) := by decide +kernel
theorem dX8_day_102 : decode cX8_day 102 = .ok (.iconst 0, 1) := by decide +kernel
theorem dX8_day_103 : decode cX8_day 103 = .ok (.istore_n 2, 1) := by decide +kernel
theorem dX8_day_104 : decode cX8_day 104 = .ok (.iload_n 2, 1) := by decide +kernel
theorem dX8_day_105 : decode cX8_day 105 = .ok (.iconst 4, 1) := by decide +kernel
theorem dX8_day_106 : decode cX8_day 106 = .ok (.if_icmp .ge 58, 3) := by decide +kernel
theorem dX8_day_109 : decode cX8_day 109 = .ok (.aload_n 0, 1) := by decide +kernel
theorem dX8_day_110 : decode cX8_day 110 = .ok (.iload_n 2, 1) := by decide +kernel
theorem dX8_day_111 : decode cX8_day 111 = .ok (.iconst 0, 1) := by decide +kernel
theorem dX8_day_112 : decode cX8_day 112 = .ok (.invokevirtual 113, 3) := by decide +kernel
theorem dX8_day_115 : decode cX8_day 115 = .ok (.ifCond .le 43, 3) := by decide +kernel
theorem dX8_day_118 : decode cX8_day 118 = .ok (.aload_n 0, 1) := by decide +kernel
theorem dX8_day_119 : decode cX8_day 119 = .ok (.getfield 9, 3) := by decide +kernel
theorem dX8_day_122 : decode cX8_day 122 = .ok (.iconst 0, 1) := by decide +kernel
theorem dX8_day_123 : decode cX8_day 123 = .ok (.iaload, 1) := by decide +kernel
theorem dX8_day_124 : decode cX8_day 124 = .ok (.aload_n 0, 1) := by decide +kernel
theorem dX8_day_125 : decode cX8_day 125 = .ok (.iload_n 2, 1) := by decide +kernel
theorem dX8_day_126 : decode cX8_day 126 = .ok (.iconst 0, 1) := by decide +kernel
theorem dX8_day_127 : decode cX8_day 127 = .ok (.invokevirtual 113, 3) := by decide +kernel
theorem dX8_day_130 : decode cX8_day 130 = .ok (.irem, 1) := by decide +kernel
theorem dX8_day_131 : decode cX8_day 131 = .ok (.ifCond .ne 27, 3) := by decide +kernel
theorem dX8_day_134 : decode cX8_day 134 = .ok (.aload_n 0, 1) := by decide +kernel
theorem dX8_day_135 : decode cX8_day 135 = .ok (.aload_n 0, 1) := by decide +kernel
theorem dX8_day_136 : decode cX8_day 136 = .ok (.iload_n 2, 1) := by decide +kernel
theorem dX8_day_137 : decode cX8_day 137 = .ok (.iconst 1, 1) := by decide +kernel
theorem dX8_day_138 : decode cX8_day 138 = .ok (.invokevirtual 113, 3) := by decide +kernel
theorem dX8_day_141 : decode cX8_day 141 = .ok (.aload_n 0, 1) := by decide +kernel
theorem dX8_day_142 : decode cX8_day 142 = .ok (.iload_n 2, 1) := by decide +kernel
theorem dX8_day_143 : decode cX8_day 143 = .ok (.iconst 2, 1) := by decide +kernel
theorem dX8_day_144 : decode cX8_day 144 = .ok (.invokevirtual 113, 3) := by decide +kernel
theorem dX8_day_147 : decode cX8_day 147 = .ok (.iconst 0, 1) := by decide +kernel
theorem dX8_day_148 : decode cX8_day 148 = .ok (.aload_n 0, 1) := by decide +kernel
theorem dX8_day_149 : decode cX8_day 149 = .ok (.iload_n 2, 1) := by decide +kernel
theorem dX8_day_150 : decode cX8_day 150 = .ok (.iconst 3, 1) := by decide +kernel
theorem dX8_day_151 : decode cX8_day 151 = .ok (.invokevirtual 113, 3) := by decide +kernel
theorem dX8_day_154 : decode cX8_day 154 = .ok (.invokevirtual 116, 3) := by decide +kernel
theorem dX8_day_157 : decode cX8_day 157 = .ok (.istore_n 3, 1) := by decide +kernel
theorem dX8_day_158 : decode cX8_day 158 = .ok (.iinc 2 1, 3) := by decide +kernel
theorem dX8_day_161 : decode cX8_day 161 = .ok (.goto (-57), 3) := by decide +kernel
theorem dX8_day_164 : decode cX8_day 164 = .ok (.iload_n 1, 1) := by decide +kernel
theorem dX8_day_165 : decode cX8_day 165 = .ok (.ireturn, 1) := by decide +kernel
theorem dX8_egg_0 : decode cX8_egg 0 = .ok (.iload_n 1, 1) := by decide +kernel
theorem dX8_egg_1 : decode cX8_egg 1 = .ok (.iconst 0, 1) := by decide +kernel
theorem dX8_egg_2 : decode cX8_egg 2 = .ok (.bipush 6, 2) := by decide +kernel
theorem dX8_egg_4 : decode cX8_egg 4 = .ok (.invokestatic 59, 3) := by decide +kernel
theorem dX8_egg_7 : decode cX8_egg 7 = .ok (.ifCond .eq 22, 3) := by decide +kernel
theorem dX8_egg_10 : decode cX8_egg 10 = .ok (.iload_n 2, 1) := by decide +kernel
theorem dX8_egg_11 : decode cX8_egg 11 = .ok (.iconst 1, 1) := by decide +kernel
theorem dX8_egg_12 : decode cX8_egg 12 = .ok (.bipush 99, 2) := by decide +kernel
theorem dX8_egg_14 : decode cX8_egg 14 = .ok (.invokestatic 59, 3) := by decide +kernel
theorem dX8_egg_17 : decode cX8_egg 17 = .ok (.ifCond .eq 12, 3) := by decide +kernel
theorem dX8_egg_20 : decode cX8_egg 20 = .ok (.iload_n 3, 1) := by decide +kernel
theorem dX8_egg_21 : decode cX8_egg 21 = .ok (.iconst 0, 1) := by decide +kernel
theorem dX8_egg_22 : decode cX8_egg 22 = .ok (.iconst 3, 1) := by decide +kernel
theorem dX8_egg_23 : decode cX8_egg 23 = .ok (.invokestatic 59, 3) := by decide +kernel
theorem dX8_egg_26 : decode cX8_egg 26 = .ok (.ifCond .ne 9, 3) := by decide +kernel
theorem dX8_egg_29 : decode cX8_egg 29 = .ok (.aload_n 0, 1) := by decide +kernel
theorem dX8_egg_30 : decode cX8_egg 30 = .ok (.iconst 0, 1) := by decide +kernel
theorem dX8_egg_31 : decode cX8_egg 31 = .ok (.invokevirtual 119, 3) := by decide +kernel
theorem dX8_egg_34 : decode cX8_egg 34 = .ok (.ireturn, 1) := by decide +kernel
theorem dX8_egg_35 : decode cX8_egg 35 = .ok (.aload_n 0, 1) := by decide +kernel
theorem dX8_egg_36 : decode cX8_egg 36 = .ok (.iload_n 1, 1) := by decide +kernel
theorem dX8_egg_37 : decode cX8_egg 37 = .ok (.iload_n 2, 1) := by decide +kernel
theorem dX8_egg_38 : decode cX8_egg 38 = .ok (.iconst 0, 1) := by decide +kernel
theorem dX8_egg_39 : decode cX8_egg 39 = .ok (.iload_n 3, 1) := by decide +kernel
theorem dX8_egg_40 : decode cX8_egg 40 = .ok (.invokevirtual 116, 3) := by decide +kernel
theorem dX8_egg_43 : decode cX8_egg 43 = .ok (.istore 4, 2) := by decide +kernel
theorem dX8_egg_45 : decode cX8_egg 45 = .ok (.iload 4, 2) := by decide +kernel
theorem dX8_egg_47 : decode cX8_egg 47 = .ok (.ifCond .ge 11, 3) := by decide +kernel
theorem dX8_egg_50 : decode cX8_egg 50 = .ok (.aload_n 0, 1) := by decide +kernel
theorem dX8_egg_51 : decode cX8_egg 51 = .ok (.iconst 1, 1) := by decide +kernel
theorem dX8_egg_52 : decode cX8_egg 52 = .ok (.invokevirtual 119, 3) := by decide +kernel
theorem dX8_egg_55 : decode cX8_egg 55 = .ok (.goto 5, 3) := by decide +kernel
theorem dX8_egg_58 : decode cX8_egg 58 = .ok (.iload 4, 2) := by decide +kernel
theorem dX8_egg_60 : decode cX8_egg 60 = .ok (.ireturn, 1) := by decide +kernel
theorem dX8_of_0 : decode cX8_of 0 = .ok (.aload_n 0, 1) := by decide +kernel
theorem dX8_of_1 : decode cX8_of 1 = .ok (.iload_n 1, 1) := by decide +kernel
theorem dX8_of_2 : decode cX8_of 2 = .ok (.invokevirtual 122, 3) := by decide +kernel
theorem dX8_of_5 : decode cX8_of 5 = .ok (.ifCond .eq 12, 3) := by decide +kernel
theorem dX8_of_8 : decode cX8_of 8 = .ok (.iload_n 2, 1) := by decide +kernel
theorem dX8_of_9 : decode cX8_of 9 = .ok (.iconst 0, 1) := by decide +kernel
theorem dX8_of_10 : decode cX8_of 10 = .ok (.iconst 5, 1) := by decide +kernel
theorem dX8_of_11 : decode cX8_of 11 = .ok (.invokestatic 59, 3) := by decide +kernel
theorem dX8_of_14 : decode cX8_of 14 = .ok (.ifCond .ne 9, 3) := by decide +kernel
theorem dX8_of_17 : decode cX8_of 17 = .ok (.aload_n 0, 1) := by decide +kernel
theorem dX8_of_18 : decode cX8_of 18 = .ok (.iconst 0, 1) := by decide +kernel
theorem dX8_of_19 : decode cX8_of 19 = .ok (.invokevirtual 119, 3) := by decide +kernel
theorem dX8_of_22 : decode cX8_of 22 = .ok (.ireturn, 1) := by decide +kernel
theorem dX8_of_23 : decode cX8_of 23 = .ok (.iload_n 2, 1) := by decide +kernel
theorem dX8_of_24 : decode cX8_of 24 = .ok (.iconst 4, 1) := by decide +kernel
theorem dX8_of_25 : decode cX8_of 25 = .ok (.if_icmp .ge 12, 3) := by decide +kernel
theorem dX8_of_28 : decode cX8_of 28 = .ok (.aload_n 0, 1) := by decide +kernel
theorem dX8_of_29 : decode cX8_of 29 = .ok (.iload_n 1, 1) := by decide +kernel
theorem dX8_of_30 : decode cX8_of 30 = .ok (.iload_n 2, 1) := by decide +kernel
theorem dX8_of_31 : decode cX8_of 31 = .ok (.invokevirtual 63, 3) := by decide +kernel
theorem dX8_of_34 : decode cX8_of 34 = .ok (.goto 25, 3) := by decide +kernel
theorem dX8_of_37 : decode cX8_of 37 = .ok (.iload_n 2, 1) := by decide +kernel
theorem dX8_of_38 : decode cX8_of 38 = .ok (.iconst 4, 1) := by decide +kernel
theorem dX8_of_39 : decode cX8_of 39 = .ok (.if_icmp .ne 11, 3) := by decide +kernel
theorem dX8_of_42 : decode cX8_of 42 = .ok (.aload_n 0, 1) := by decide +kernel
theorem dX8_of_43 : decode cX8_of 43 = .ok (.iload_n 1, 1) := by decide +kernel
theorem dX8_of_44 : decode cX8_of 44 = .ok (.invokevirtual 92, 3) := by decide +kernel
theorem dX8_of_47 : decode cX8_of 47 = .ok (.goto 12, 3) := by decide +kernel
theorem dX8_of_50 : decode cX8_of 50 = .ok (.aload_n 0, 1) := by decide +kernel
theorem dX8_of_51 : decode cX8_of 51 = .ok (.iload_n 1, 1) := by decide +kernel
theorem dX8_of_52 : decode cX8_of 52 = .ok (.iconst 0, 1) := by decide +kernel
theorem dX8_of_53 : decode cX8_of 53 = .ok (.invokevirtual 63, 3) := by decide +kernel
theorem dX8_of_56 : decode cX8_of 56 = .ok (.invokestatic 84, 3) := by decide +kernel
theorem dX8_of_59 : decode cX8_of 59 = .ok (.ireturn, 1) := by decide +kernel
theorem dX8_change_0 : decode cX8_change 0 = .ok (.iload_n 2, 1) := by decide +kernel
theorem dX8_change_1 : decode cX8_change 1 = .ok (.ifCond .ne 8, 3) := by decide +kernel
theorem dX8_change_4 : decode cX8_change 4 = .ok (.bipush 6, 2) := by decide +kernel
theorem dX8_change_6 : decode cX8_change 6 = .ok (.goto 14, 3) := by decide +kernel
theorem dX8_change_9 : decode cX8_change 9 = .ok (.iload_n 2, 1) := by decide +kernel
theorem dX8_change_10 : decode cX8_change 10 = .ok (.iconst 3, 1) := by decide +kernel
theorem dX8_change_11 : decode cX8_change 11 = .ok (.if_icmp .ne 7, 3) := by decide +kernel
theorem dX8_change_14 : decode cX8_change 14 = .ok (.iconst 3, 1) := by decide +kernel
theorem dX8_change_15 : decode cX8_change 15 = .ok (.goto 5, 3) := by decide +kernel
theorem dX8_change_18 : decode cX8_change 18 = .ok (.bipush 99, 2) := by decide +kernel
theorem dX8_change_20 : decode cX8_change 20 = .ok (.istore 4, 2) := by decide +kernel
theorem dX8_change_22 : decode cX8_change 22 = .ok (.aload_n 0, 1) := by decide +kernel
theorem dX8_change_23 : decode cX8_change 23 = .ok (.iload_n 1, 1) := by decide +kernel
theorem dX8_change_24 : decode cX8_change 24 = .ok (.invokevirtual 122, 3) := by decide +kernel
theorem dX8_change_27 : decode cX8_change 27 = .ok (.ifCond .eq 31, 3) := by decide +kernel
theorem dX8_change_30 : decode cX8_change 30 = .ok (.iload_n 2, 1) := by decide +kernel
theorem dX8_change_31 : decode cX8_change 31 = .ok (.iconst 0, 1) := by decide +kernel
theorem dX8_change_32 : decode cX8_change 32 = .ok (.iconst 3, 1) := by decide +kernel
theorem dX8_change_33 : decode cX8_change 33 = .ok (.invokestatic 59, 3) := by decide +kernel
theorem dX8_change_36 : decode cX8_change 36 = .ok (.ifCond .eq 22, 3) := by decide +kernel
theorem dX8_change_39 : decode cX8_change 39 = .ok (.iload_n 3, 1) := by decide +kernel
theorem dX8_change_40 : decode cX8_change 40 = .ok (.iload_n 2, 1) := by decide +kernel
theorem dX8_change_41 : decode cX8_change 41 = .ok (.iconst 1, 1) := by decide +kernel
theorem dX8_change_42 : decode cX8_change 42 = .ok (.if_icmp .ne 7, 3) := by decide +kernel
theorem dX8_change_45 : decode cX8_change 45 = .ok (.iconst 1, 1) := by decide +kernel
theorem dX8_change_46 : decode cX8_change 46 = .ok (.goto 4, 3) := by decide +kernel
theorem dX8_change_49 : decode cX8_change 49 = .ok (.iconst 0, 1) := by decide +kernel
theorem dX8_change_50 : decode cX8_change 50 = .ok (.iload 4, 2) := by decide +kernel
theorem dX8_change_52 : decode cX8_change 52 = .ok (.invokestatic 59, 3) := by decide +kernel
theorem dX8_change_55 : decode cX8_change 55 = .ok (.ifCond .ne 9, 3) := by decide +kernel
theorem dX8_change_58 : decode cX8_change 58 = .ok (.aload_n 0, 1) := by decide +kernel
theorem dX8_change_59 : decode cX8_change 59 = .ok (.iconst 0, 1) := by decide +kernel
theorem dX8_change_60 : decode cX8_change 60 = .ok (.invokevirtual 119, 3) := by decide +kernel
theorem dX8_change_63 : decode cX8_change 63 = .ok (.ireturn, 1) := by decide +kernel
theorem dX8_change_64 : decode cX8_change 64 = .ok (.aload_n 0, 1) := by decide +kernel
theorem dX8_change_65 : decode cX8_change 65 = .ok (.iload_n 1, 1) := by decide +kernel
theorem dX8_change_66 : decode cX8_change 66 = .ok (.iload_n 2, 1) := by decide +kernel
theorem dX8_change_67 : decode cX8_change 67 = .ok (.invokevirtual 63, 3) := by decide +kernel
theorem dX8_change_70 : decode cX8_change 70 = .ok (.istore 5, 2) := by decide +kernel
theorem dX8_change_72 : decode cX8_change 72 = .ok (.aload_n 0, 1) := by decide +kernel
theorem dX8_change_73 : decode cX8_change 73 = .ok (.iload_n 1, 1) := by decide +kernel
theorem dX8_change_74 : decode cX8_change 74 = .ok (.iload_n 2, 1) := by decide +kernel
theorem dX8_change_75 : decode cX8_change 75 = .ok (.iload_n 3, 1) := by decide +kernel
theorem dX8_change_76 : decode cX8_change 76 = .ok (.invokevirtual 105, 3) := by decide +kernel
theorem dX8_change_79 : decode cX8_change 79 = .ok (.iload 5, 2) := by decide +kernel
theorem dX8_change_81 : decode cX8_change 81 = .ok (.ireturn, 1) := by decide +kernel
theorem dX8_hen_0 : decode cX8_hen 0 = .ok (.iload_n 2, 1) := by decide +kernel
theorem dX8_hen_1 : decode cX8_hen 1 = .ok (.ifCond .ne 8, 3) := by decide +kernel
theorem dX8_hen_4 : decode cX8_hen 4 = .ok (.bipush 30, 2) := by decide +kernel
theorem dX8_hen_6 : decode cX8_hen 6 = .ok (.goto 24, 3) := by decide +kernel
theorem dX8_hen_9 : decode cX8_hen 9 = .ok (.iload_n 2, 1) := by decide +kernel
theorem dX8_hen_10 : decode cX8_hen 10 = .ok (.iconst 1, 1) := by decide +kernel
theorem dX8_hen_11 : decode cX8_hen 11 = .ok (.if_icmp .ne 8, 3) := by decide +kernel
theorem dX8_hen_14 : decode cX8_hen 14 = .ok (.bipush 6, 2) := by decide +kernel
theorem dX8_hen_16 : decode cX8_hen 16 = .ok (.goto 14, 3) := by decide +kernel
theorem dX8_hen_19 : decode cX8_hen 19 = .ok (.iload_n 2, 1) := by decide +kernel
theorem dX8_hen_20 : decode cX8_hen 20 = .ok (.iconst 2, 1) := by decide +kernel
theorem dX8_hen_21 : decode cX8_hen 21 = .ok (.if_icmp .ne 8, 3) := by decide +kernel
theorem dX8_hen_24 : decode cX8_hen 24 = .ok (.bipush 99, 2) := by decide +kernel
theorem dX8_hen_26 : decode cX8_hen 26 = .ok (.goto 4, 3) := by decide +kernel
theorem dX8_hen_29 : decode cX8_hen 29 = .ok (.iconst 3, 1) := by decide +kernel
theorem dX8_hen_30 : decode cX8_hen 30 = .ok (.istore 4, 2) := by decide +kernel
theorem dX8_hen_32 : decode cX8_hen 32 = .ok (.iload_n 1, 1) := by decide +kernel
theorem dX8_hen_33 : decode cX8_hen 33 = .ok (.invokestatic 125, 3) := by decide +kernel
theorem dX8_hen_36 : decode cX8_hen 36 = .ok (.ifCond .eq 31, 3) := by decide +kernel
theorem dX8_hen_39 : decode cX8_hen 39 = .ok (.iload_n 2, 1) := by decide +kernel
theorem dX8_hen_40 : decode cX8_hen 40 = .ok (.iconst 0, 1) := by decide +kernel
theorem dX8_hen_41 : decode cX8_hen 41 = .ok (.iconst 3, 1) := by decide +kernel
theorem dX8_hen_42 : decode cX8_hen 42 = .ok (.invokestatic 59, 3) := by decide +kernel
theorem dX8_hen_45 : decode cX8_hen 45 = .ok (.ifCond .eq 22, 3) := by decide +kernel
theorem dX8_hen_48 : decode cX8_hen 48 = .ok (.iload_n 3, 1) := by decide +kernel
theorem dX8_hen_49 : decode cX8_hen 49 = .ok (.iload_n 2, 1) := by decide +kernel
theorem dX8_hen_50 : decode cX8_hen 50 = .ok (.iconst 2, 1) := by decide +kernel
theorem dX8_hen_51 : decode cX8_hen 51 = .ok (.if_icmp .ne 7, 3) := by decide +kernel
theorem dX8_hen_54 : decode cX8_hen 54 = .ok (.iconst 1, 1) := by decide +kernel
theorem dX8_hen_55 : decode cX8_hen 55 = .ok (.goto 4, 3) := by decide +kernel
theorem dX8_hen_58 : decode cX8_hen 58 = .ok (.iconst 0, 1) := by decide +kernel
theorem dX8_hen_59 : decode cX8_hen 59 = .ok (.iload 4, 2) := by decide +kernel
theorem dX8_hen_61 : decode cX8_hen 61 = .ok (.invokestatic 59, 3) := by decide +kernel
theorem dX8_hen_64 : decode cX8_hen 64 = .ok (.ifCond .ne 9, 3) := by decide +kernel
theorem dX8_hen_67 : decode cX8_hen 67 = .ok (.aload_n 0, 1) := by decide +kernel
theorem dX8_hen_68 : decode cX8_hen 68 = .ok (.iconst 0, 1) := by decide +kernel
theorem dX8_hen_69 : decode cX8_hen 69 = .ok (.invokevirtual 119, 3) := by decide +kernel
theorem dX8_hen_72 : decode cX8_hen 72 = .ok (.ireturn, 1) := by decide +kernel
theorem dX8_hen_73 : decode cX8_hen 73 = .ok (.aload_n 0, 1) := by decide +kernel
theorem dX8_hen_74 : decode cX8_hen 74 = .ok (.iload_n 1, 1) := by decide +kernel
theorem dX8_hen_75 : decode cX8_hen 75 = .ok (.iload_n 2, 1) := by decide +kernel
theorem dX8_hen_76 : decode cX8_hen 76 = .ok (.invokevirtual 113, 3) := by decide +kernel
theorem dX8_hen_79 : decode cX8_hen 79 = .ok (.istore 5, 2) := by decide +kernel
theorem dX8_hen_81 : decode cX8_hen 81 = .ok (.aload_n 0, 1) := by decide +kernel
theorem dX8_hen_82 : decode cX8_hen 82 = .ok (.getfield 9, 3) := by decide +kernel
theorem dX8_hen_85 : decode cX8_hen 85 = .ok (.bipush 43, 2) := by decide +kernel
theorem dX8_hen_87 : decode cX8_hen 87 = .ok (.iconst 4, 1) := by decide +kernel
theorem dX8_hen_88 : decode cX8_hen 88 = .ok (.iload_n 1, 1) := by decide +kernel
theorem dX8_hen_89 : decode cX8_hen 89 = .ok (.imul, 1) := by decide +kernel
theorem dX8_hen_90 : decode cX8_hen 90 = .ok (.iadd, 1) := by decide +kernel
theorem dX8_hen_91 : decode cX8_hen 91 = .ok (.iload_n 2, 1) := by decide +kernel
theorem dX8_hen_92 : decode cX8_hen 92 = .ok (.iadd, 1) := by decide +kernel
theorem dX8_hen_93 : decode cX8_hen 93 = .ok (.iload_n 3, 1) := by decide +kernel
theorem dX8_hen_94 : decode cX8_hen 94 = .ok (.iastore, 1) := by decide +kernel
theorem dX8_hen_95 : decode cX8_hen 95 = .ok (.iload 5, 2) := by decide +kernel
theorem dX8_hen_97 : decode cX8_hen 97 = .ok (.ireturn, 1) := by decide +kernel
theorem dX8_work_0 : decode cX8_work 0 = .ok (.iload_n 2, 1) := by decide +kernel
theorem dX8_work_1 : decode cX8_work 1 = .ok (.ifCond .ne 9, 3) := by decide +kernel
theorem dX8_work_4 : decode cX8_work 4 = .ok (.sipush 999, 3) := by decide +kernel
theorem dX8_work_7 : decode cX8_work 7 = .ok (.goto 26, 3) := by decide +kernel
theorem dX8_work_10 : decode cX8_work 10 = .ok (.iload_n 2, 1) := by decide +kernel
theorem dX8_work_11 : decode cX8_work 11 = .ok (.iconst 1, 1) := by decide +kernel
theorem dX8_work_12 : decode cX8_work 12 = .ok (.if_icmp .ne 8, 3) := by decide +kernel
theorem dX8_work_15 : decode cX8_work 15 = .ok (.ldc 57, 2) := by decide +kernel
theorem dX8_work_17 : decode cX8_work 17 = .ok (.goto 16, 3) := by decide +kernel
theorem dX8_work_20 : decode cX8_work 20 = .ok (.iload_n 2, 1) := by decide +kernel
theorem dX8_work_21 : decode cX8_work 21 = .ok (.iconst 2, 1) := by decide +kernel
theorem dX8_work_22 : decode cX8_work 22 = .ok (.if_icmp .ne 8, 3) := by decide +kernel
theorem dX8_work_25 : decode cX8_work 25 = .ok (.bipush 99, 2) := by decide +kernel
theorem dX8_work_27 : decode cX8_work 27 = .ok (.goto 6, 3) := by decide +kernel
theorem dX8_work_30 : decode cX8_work 30 = .ok (.sipush 9999, 3) := by decide +kernel
theorem dX8_work_33 : decode cX8_work 33 = .ok (.istore 4, 2) := by decide +kernel
theorem dX8_work_35 : decode cX8_work 35 = .ok (.iload_n 1, 1) := by decide +kernel
theorem dX8_work_36 : decode cX8_work 36 = .ok (.invokestatic 128, 3) := by decide +kernel
theorem dX8_work_39 : decode cX8_work 39 = .ok (.ifCond .eq 33, 3) := by decide +kernel
theorem dX8_work_42 : decode cX8_work 42 = .ok (.iload_n 2, 1) := by decide +kernel
theorem dX8_work_43 : decode cX8_work 43 = .ok (.iconst 0, 1) := by decide +kernel
theorem dX8_work_44 : decode cX8_work 44 = .ok (.iconst 3, 1) := by decide +kernel
theorem dX8_work_45 : decode cX8_work 45 = .ok (.invokestatic 59, 3) := by decide +kernel
theorem dX8_work_48 : decode cX8_work 48 = .ok (.ifCond .eq 24, 3) := by decide +kernel
theorem dX8_work_51 : decode cX8_work 51 = .ok (.iload_n 3, 1) := by decide +kernel
theorem dX8_work_52 : decode cX8_work 52 = .ok (.iload_n 2, 1) := by decide +kernel
theorem dX8_work_53 : decode cX8_work 53 = .ok (.iconst 3, 1) := by decide +kernel
theorem dX8_work_54 : decode cX8_work 54 = .ok (.if_icmp .ne 9, 3) := by decide +kernel
theorem dX8_work_57 : decode cX8_work 57 = .ok (.sipush (-9999), 3) := by decide +kernel
theorem dX8_work_60 : decode cX8_work 60 = .ok (.goto 4, 3) := by decide +kernel
theorem dX8_work_63 : decode cX8_work 63 = .ok (.iconst 0, 1) := by decide +kernel
theorem dX8_work_64 : decode cX8_work 64 = .ok (.iload 4, 2) := by decide +kernel
theorem dX8_work_66 : decode cX8_work 66 = .ok (.invokestatic 59, 3) := by decide +kernel
theorem dX8_work_69 : decode cX8_work 69 = .ok (.ifCond .ne 9, 3) := by decide +kernel
theorem dX8_work_72 : decode cX8_work 72 = .ok (.aload_n 0, 1) := by decide +kernel
theorem dX8_work_73 : decode cX8_work 73 = .ok (.iconst 0, 1) := by decide +kernel
theorem dX8_work_74 : decode cX8_work 74 = .ok (.invokevirtual 119, 3) := by decide +kernel
theorem dX8_work_77 : decode cX8_work 77 = .ok (.ireturn, 1) := by decide +kernel
theorem dX8_work_78 : decode cX8_work 78 = .ok (.aload_n 0, 1) := by decide +kernel
theorem dX8_work_79 : decode cX8_work 79 = .ok (.iload_n 1, 1) := by decide +kernel
theorem dX8_work_80 : decode cX8_work 80 = .ok (.iload_n 2, 1) := by decide +kernel
theorem dX8_work_81 : decode cX8_work 81 = .ok (.invokevirtual 131, 3) := by decide +kernel
theorem dX8_work_84 : decode cX8_work 84 = .ok (.istore 5, 2) := by decide +kernel
theorem dX8_work_86 : decode cX8_work 86 = .ok (.aload_n 0, 1) := by decide +kernel
theorem dX8_work_87 : decode cX8_work 87 = .ok (.getfield 9, 3) := by decide +kernel
theorem dX8_work_90 : decode cX8_work 90 = .ok (.bipush 59, 2) := by decide +kernel
theorem dX8_work_92 : decode cX8_work 92 = .ok (.iconst 4, 1) := by decide +kernel
theorem dX8_work_93 : decode cX8_work 93 = .ok (.iload_n 1, 1) := by decide +kernel
theorem dX8_work_94 : decode cX8_work 94 = .ok (.imul, 1) := by decide +kernel
theorem dX8_work_95 : decode cX8_work 95 = .ok (.iadd, 1) := by decide +kernel
theorem dX8_work_96 : decode cX8_work 96 = .ok (.iload_n 2, 1) := by decide +kernel
theorem dX8_work_97 : decode cX8_work 97 = .ok (.iadd, 1) := by decide +kernel
theorem dX8_work_98 : decode cX8_work 98 = .ok (.iload_n 3, 1) := by decide +kernel
theorem dX8_work_99 : decode cX8_work 99 = .ok (.iastore, 1) := by decide +kernel
theorem dX8_work_100 : decode cX8_work 100 = .ok (.iload 5, 2) := by decide +kernel
theorem dX8_work_102 : decode cX8_work 102 = .ok (.ireturn, 1) := by decide +kernel
theorem dX8_henOf_0 : decode cX8_henOf 0 = .ok (.iload_n 1, 1) := by decide +kernel
theorem dX8_henOf_1 : decode cX8_henOf 1 = .ok (.invokestatic 125, 3) := by decide +kernel
theorem dX8_henOf_4 : decode cX8_henOf 4 = .ok (.ifCond .eq 21, 3) := by decide +kernel
theorem dX8_henOf_7 : decode cX8_henOf 7 = .ok (.iload_n 2, 1) := by decide +kernel
theorem dX8_henOf_8 : decode cX8_henOf 8 = .ok (.iconst 0, 1) := by decide +kernel
theorem dX8_henOf_9 : decode cX8_henOf 9 = .ok (.iconst 3, 1) := by decide +kernel
theorem dX8_henOf_10 : decode cX8_henOf 10 = .ok (.invokestatic 59, 3) := by decide +kernel
theorem dX8_henOf_13 : decode cX8_henOf 13 = .ok (.ifCond .eq 12, 3) := by decide +kernel
theorem dX8_henOf_16 : decode cX8_henOf 16 = .ok (.aload_n 0, 1) := by decide +kernel
theorem dX8_henOf_17 : decode cX8_henOf 17 = .ok (.iload_n 1, 1) := by decide +kernel
theorem dX8_henOf_18 : decode cX8_henOf 18 = .ok (.iload_n 2, 1) := by decide +kernel
theorem dX8_henOf_19 : decode cX8_henOf 19 = .ok (.invokevirtual 113, 3) := by decide +kernel
theorem dX8_henOf_22 : decode cX8_henOf 22 = .ok (.goto 8, 3) := by decide +kernel
theorem dX8_henOf_25 : decode cX8_henOf 25 = .ok (.aload_n 0, 1) := by decide +kernel
theorem dX8_henOf_26 : decode cX8_henOf 26 = .ok (.iconst 0, 1) := by decide +kernel
theorem dX8_henOf_27 : decode cX8_henOf 27 = .ok (.invokevirtual 119, 3) := by decide +kernel
theorem dX8_henOf_30 : decode cX8_henOf 30 = .ok (.ireturn, 1) := by decide +kernel
theorem dX8_isDone_0 : decode cX8_isDone 0 = .ok (.aload_n 0, 1) := by decide +kernel
theorem dX8_isDone_1 : decode cX8_isDone 1 = .ok (.iload_n 1, 1) := by decide +kernel
theorem dX8_isDone_2 : decode cX8_isDone 2 = .ok (.iconst 3, 1) := by decide +kernel
theorem dX8_isDone_3 : decode cX8_isDone 3 = .ok (.invokevirtual 131, 3) := by decide +kernel
theorem dX8_isDone_6 : decode cX8_isDone 6 = .ok (.aload_n 0, 1) := by decide +kernel
theorem dX8_isDone_7 : decode cX8_isDone 7 = .ok (.iload_n 1, 1) := by decide +kernel
theorem dX8_isDone_8 : decode cX8_isDone 8 = .ok (.iconst 0, 1) := by decide +kernel
theorem dX8_isDone_9 : decode cX8_isDone 9 = .ok (.invokevirtual 131, 3) := by decide +kernel
theorem dX8_isDone_12 : decode cX8_isDone 12 = .ok (.if_icmp .lt 7, 3) := by decide +kernel
theorem dX8_isDone_15 : decode cX8_isDone 15 = .ok (.iconst 1, 1) := by decide +kernel
theorem dX8_isDone_16 : decode cX8_isDone 16 = .ok (.goto 4, 3) := by decide +kernel
theorem dX8_isDone_19 : decode cX8_isDone 19 = .ok (.iconst 0, 1) := by decide +kernel
theorem dX8_isDone_20 : decode cX8_isDone 20 = .ok (.ireturn, 1) := by decide +kernel
theorem dX8_workOf_0 : decode cX8_workOf 0 = .ok (.iload_n 1, 1) := by decide +kernel
theorem dX8_workOf_1 : decode cX8_workOf 1 = .ok (.invokestatic 128, 3) := by decide +kernel
theorem dX8_workOf_4 : decode cX8_workOf 4 = .ok (.ifCond .eq 12, 3) := by decide +kernel
theorem dX8_workOf_7 : decode cX8_workOf 7 = .ok (.iload_n 2, 1) := by decide +kernel
theorem dX8_workOf_8 : decode cX8_workOf 8 = .ok (.iconst 0, 1) := by decide +kernel
theorem dX8_workOf_9 : decode cX8_workOf 9 = .ok (.iconst 4, 1) := by decide +kernel
theorem dX8_workOf_10 : decode cX8_workOf 10 = .ok (.invokestatic 59, 3) := by decide +kernel
theorem dX8_workOf_13 : decode cX8_workOf 13 = .ok (.ifCond .ne 9, 3) := by decide +kernel
theorem dX8_workOf_16 : decode cX8_workOf 16 = .ok (.aload_n 0, 1) := by decide +kernel
theorem dX8_workOf_17 : decode cX8_workOf 17 = .ok (.iconst 0, 1) := by decide +kernel
theorem dX8_workOf_18 : decode cX8_workOf 18 = .ok (.invokevirtual 119, 3) := by decide +kernel
theorem dX8_workOf_21 : decode cX8_workOf 21 = .ok (.ireturn, 1) := by decide +kernel
theorem dX8_workOf_22 : decode cX8_workOf 22 = .ok (.iload_n 2, 1) := by decide +kernel
theorem dX8_workOf_23 : decode cX8_workOf 23 = .ok (.iconst 4, 1) := by decide +kernel
theorem dX8_workOf_24 : decode cX8_workOf 24 = .ok (.if_icmp .ge 12, 3) := by decide +kernel
theorem dX8_workOf_27 : decode cX8_workOf 27 = .ok (.aload_n 0, 1) := by decide +kernel
theorem dX8_workOf_28 : decode cX8_workOf 28 = .ok (.iload_n 1, 1) := by decide +kernel
theorem dX8_workOf_29 : decode cX8_workOf 29 = .ok (.iload_n 2, 1) := by decide +kernel
theorem dX8_workOf_30 : decode cX8_workOf 30 = .ok (.invokevirtual 131, 3) := by decide +kernel
theorem dX8_workOf_33 : decode cX8_workOf 33 = .ok (.goto 16, 3) := by decide +kernel
theorem dX8_workOf_36 : decode cX8_workOf 36 = .ok (.aload_n 0, 1) := by decide +kernel
theorem dX8_workOf_37 : decode cX8_workOf 37 = .ok (.iload_n 1, 1) := by decide +kernel
theorem dX8_workOf_38 : decode cX8_workOf 38 = .ok (.invokevirtual 134, 3) := by decide +kernel
theorem dX8_workOf_41 : decode cX8_workOf 41 = .ok (.ifCond .eq 7, 3) := by decide +kernel
theorem dX8_workOf_44 : decode cX8_workOf 44 = .ok (.iconst 1, 1) := by decide +kernel
theorem dX8_workOf_45 : decode cX8_workOf 45 = .ok (.goto 4, 3) := by decide +kernel
theorem dX8_workOf_48 : decode cX8_workOf 48 = .ok (.iconst 0, 1) := by decide +kernel
theorem dX8_workOf_49 : decode cX8_workOf 49 = .ok (.ireturn, 1) := by decide +kernel
theorem dX8_isOver_0 : decode cX8_isOver 0 = .ok (.aload_n 0, 1) := by decide +kernel
theorem dX8_isOver_1 : decode cX8_isOver 1 = .ok (.getfield 9, 3) := by decide +kernel
theorem dX8_isOver_4 : decode cX8_isOver 4 = .ok (.iconst 0, 1) := by decide +kernel
theorem dX8_isOver_5 : decode cX8_isOver 5 = .ok (.iaload, 1) := by decide +kernel
theorem dX8_isOver_6 : decode cX8_isOver 6 = .ok (.aload_n 0, 1) := by decide +kernel
theorem dX8_isOver_7 : decode cX8_isOver 7 = .ok (.iload_n 1, 1) := by decide +kernel
theorem dX8_isOver_8 : decode cX8_isOver 8 = .ok (.iconst 1, 1) := by decide +kernel
theorem dX8_isOver_9 : decode cX8_isOver 9 = .ok (.invokevirtual 131, 3) := by decide +kernel
theorem dX8_isOver_12 : decode cX8_isOver 12 = .ok (.if_icmp .le 7, 3) := by decide +kernel
theorem dX8_isOver_15 : decode cX8_isOver 15 = .ok (.iconst 1, 1) := by decide +kernel
theorem dX8_isOver_16 : decode cX8_isOver 16 = .ok (.goto 4, 3) := by decide +kernel
theorem dX8_isOver_19 : decode cX8_isOver 19 = .ok (.iconst 0, 1) := by decide +kernel
theorem dX8_isOver_20 : decode cX8_isOver 20 = .ok (.ireturn, 1) := by decide +kernel
theorem dX8_spend_0 : decode cX8_spend 0 = .ok (.aload_n 0, 1) := by decide +kernel
theorem dX8_spend_1 : decode cX8_spend 1 = .ok (.iload_n 1, 1) := by decide +kernel
theorem dX8_spend_2 : decode cX8_spend 2 = .ok (.invokevirtual 122, 3) := by decide +kernel
theorem dX8_spend_5 : decode cX8_spend 5 = .ok (.ifCond .eq 10, 3) := by decide +kernel
theorem dX8_spend_8 : decode cX8_spend 8 = .ok (.iload_n 2, 1) := by decide +kernel
theorem dX8_spend_9 : decode cX8_spend 9 = .ok (.invokestatic 128, 3) := by decide +kernel
theorem dX8_spend_12 : decode cX8_spend 12 = .ok (.ifCond .ne 9, 3) := by decide +kernel
theorem dX8_spend_15 : decode cX8_spend 15 = .ok (.aload_n 0, 1) := by decide +kernel
theorem dX8_spend_16 : decode cX8_spend 16 = .ok (.iconst 0, 1) := by decide +kernel
theorem dX8_spend_17 : decode cX8_spend 17 = .ok (.invokevirtual 119, 3) := by decide +kernel
theorem dX8_spend_20 : decode cX8_spend 20 = .ok (.ireturn, 1) := by decide +kernel
theorem dX8_spend_21 : decode cX8_spend 21 = .ok (.aload_n 0, 1) := by decide +kernel
theorem dX8_spend_22 : decode cX8_spend 22 = .ok (.iload_n 2, 1) := by decide +kernel
theorem dX8_spend_23 : decode cX8_spend 23 = .ok (.invokevirtual 137, 3) := by decide +kernel
theorem dX8_spend_26 : decode cX8_spend 26 = .ok (.ifCond .eq 9, 3) := by decide +kernel
theorem dX8_spend_29 : decode cX8_spend 29 = .ok (.aload_n 0, 1) := by decide +kernel
theorem dX8_spend_30 : decode cX8_spend 30 = .ok (.iconst 4, 1) := by decide +kernel
theorem dX8_spend_31 : decode cX8_spend 31 = .ok (.invokevirtual 119, 3) := by decide +kernel
theorem dX8_spend_34 : decode cX8_spend 34 = .ok (.ireturn, 1) := by decide +kernel
theorem dX8_spend_35 : decode cX8_spend 35 = .ok (.sipush (-9999), 3) := by decide +kernel
theorem dX8_spend_38 : decode cX8_spend 38 = .ok (.sipush 9999, 3) := by decide +kernel
theorem dX8_spend_41 : decode cX8_spend 41 = .ok (.aload_n 0, 1) := by decide +kernel
theorem dX8_spend_42 : decode cX8_spend 42 = .ok (.iload_n 2, 1) := by decide +kernel
theorem dX8_spend_43 : decode cX8_spend 43 = .ok (.iconst 3, 1) := by decide +kernel
theorem dX8_spend_44 : decode cX8_spend 44 = .ok (.invokevirtual 131, 3) := by decide +kernel
theorem dX8_spend_47 : decode cX8_spend 47 = .ok (.aload_n 0, 1) := by decide +kernel
theorem dX8_spend_48 : decode cX8_spend 48 = .ok (.iload_n 1, 1) := by decide +kernel
theorem dX8_spend_49 : decode cX8_spend 49 = .ok (.invokevirtual 92, 3) := by decide +kernel
theorem dX8_spend_52 : decode cX8_spend 52 = .ok (.iadd, 1) := by decide +kernel
theorem dX8_spend_53 : decode cX8_spend 53 = .ok (.invokestatic 77, 3) := by decide +kernel
theorem dX8_spend_56 : decode cX8_spend 56 = .ok (.invokestatic 74, 3) := by decide +kernel
theorem dX8_spend_59 : decode cX8_spend 59 = .ok (.istore_n 3, 1) := by decide +kernel
theorem dX8_spend_60 : decode cX8_spend 60 = .ok (.aload_n 0, 1) := by decide +kernel
theorem dX8_spend_61 : decode cX8_spend 61 = .ok (.getfield 9, 3) := by decide +kernel
theorem dX8_spend_64 : decode cX8_spend 64 = .ok (.bipush 59, 2) := by decide +kernel
theorem dX8_spend_66 : decode cX8_spend 66 = .ok (.iconst 4, 1) := by decide +kernel
theorem dX8_spend_67 : decode cX8_spend 67 = .ok (.iload_n 2, 1) := by decide +kernel
theorem dX8_spend_68 : decode cX8_spend 68 = .ok (.imul, 1) := by decide +kernel
theorem dX8_spend_69 : decode cX8_spend 69 = .ok (.iadd, 1) := by decide +kernel
theorem dX8_spend_70 : decode cX8_spend 70 = .ok (.iconst 3, 1) := by decide +kernel
theorem dX8_spend_71 : decode cX8_spend 71 = .ok (.iadd, 1) := by decide +kernel
theorem dX8_spend_72 : decode cX8_spend 72 = .ok (.iload_n 3, 1) := by decide +kernel
theorem dX8_spend_73 : decode cX8_spend 73 = .ok (.iastore, 1) := by decide +kernel
theorem dX8_spend_74 : decode cX8_spend 74 = .ok (.aload_n 0, 1) := by decide +kernel
theorem dX8_spend_75 : decode cX8_spend 75 = .ok (.iload_n 1, 1) := by decide +kernel
theorem dX8_spend_76 : decode cX8_spend 76 = .ok (.invokevirtual 109, 3) := by decide +kernel
theorem dX8_spend_79 : decode cX8_spend 79 = .ok (.iload_n 3, 1) := by decide +kernel
theorem dX8_spend_80 : decode cX8_spend 80 = .ok (.ireturn, 1) := by decide +kernel
theorem dX8_broken_0 : decode cX8_broken 0 = .ok (.aload_n 0, 1) := by decide +kernel
theorem dX8_broken_1 : decode cX8_broken 1 = .ok (.iload_n 1, 1) := by decide +kernel
theorem dX8_broken_2 : decode cX8_broken 2 = .ok (.invokevirtual 122, 3) := by decide +kernel
theorem dX8_broken_5 : decode cX8_broken 5 = .ok (.ifCond .ne 9, 3) := by decide +kernel
theorem dX8_broken_8 : decode cX8_broken 8 = .ok (.aload_n 0, 1) := by decide +kernel
theorem dX8_broken_9 : decode cX8_broken 9 = .ok (.iconst 0, 1) := by decide +kernel
theorem dX8_broken_10 : decode cX8_broken 10 = .ok (.invokevirtual 119, 3) := by decide +kernel
theorem dX8_broken_13 : decode cX8_broken 13 = .ok (.ireturn, 1) := by decide +kernel
theorem dX8_broken_14 : decode cX8_broken 14 = .ok (.aload_n 0, 1) := by decide +kernel
theorem dX8_broken_15 : decode cX8_broken 15 = .ok (.iload_n 1, 1) := by decide +kernel
theorem dX8_broken_16 : decode cX8_broken 16 = .ok (.invokevirtual 92, 3) := by decide +kernel
theorem dX8_broken_19 : decode cX8_broken 19 = .ok (.istore_n 2, 1) := by decide +kernel
theorem dX8_broken_20 : decode cX8_broken 20 = .ok (.aload_n 0, 1) := by decide +kernel
theorem dX8_broken_21 : decode cX8_broken 21 = .ok (.iload_n 1, 1) := by decide +kernel
theorem dX8_broken_22 : decode cX8_broken 22 = .ok (.invokevirtual 109, 3) := by decide +kernel
theorem dX8_broken_25 : decode cX8_broken 25 = .ok (.iload_n 2, 1) := by decide +kernel
theorem dX8_broken_26 : decode cX8_broken 26 = .ok (.ireturn, 1) := by decide +kernel
theorem dX8_done_0 : decode cX8_done 0 = .ok (.iconst 0, 1) := by decide +kernel
theorem dX8_done_1 : decode cX8_done 1 = .ok (.istore_n 1, 1) := by decide +kernel
theorem dX8_done_2 : decode cX8_done 2 = .ok (.iconst 0, 1) := by decide +kernel
theorem dX8_done_3 : decode cX8_done 3 = .ok (.istore_n 2, 1) := by decide +kernel
theorem dX8_done_4 : decode cX8_done 4 = .ok (.iload_n 2, 1) := by decide +kernel
theorem dX8_done_5 : decode cX8_done 5 = .ok (.bipush 6, 2) := by decide +kernel
theorem dX8_done_7 : decode cX8_done 7 = .ok (.if_icmp .ge 27, 3) := by decide +kernel
theorem dX8_done_10 : decode cX8_done 10 = .ok (.iload_n 1, 1) := by decide +kernel
theorem dX8_done_11 : decode cX8_done 11 = .ok (.aload_n 0, 1) := by decide +kernel
theorem dX8_done_12 : decode cX8_done 12 = .ok (.iload_n 2, 1) := by decide +kernel
theorem dX8_done_13 : decode cX8_done 13 = .ok (.invokevirtual 134, 3) := by decide +kernel
theorem dX8_done_16 : decode cX8_done 16 = .ok (.ifCond .eq 9, 3) := by decide +kernel
theorem dX8_done_19 : decode cX8_done 19 = .ok (.iconst 1, 1) := by decide +kernel
theorem dX8_done_20 : decode cX8_done 20 = .ok (.iload_n 2, 1) := by decide +kernel
theorem dX8_done_21 : decode cX8_done 21 = .ok (.ishl, 1) := by decide +kernel
theorem dX8_done_22 : decode cX8_done 22 = .ok (.goto 4, 3) := by decide +kernel
theorem dX8_done_25 : decode cX8_done 25 = .ok (.iconst 0, 1) := by decide +kernel
theorem dX8_done_26 : decode cX8_done 26 = .ok (.ior, 1) := by decide +kernel
theorem dX8_done_27 : decode cX8_done 27 = .ok (.istore_n 1, 1) := by decide +kernel
theorem dX8_done_28 : decode cX8_done 28 = .ok (.iinc 2 1, 3) := by decide +kernel
theorem dX8_done_31 : decode cX8_done 31 = .ok (.goto (-27), 3) := by decide +kernel
theorem dX8_done_34 : decode cX8_done 34 = .ok (.iload_n 1, 1) := by decide +kernel
theorem dX8_done_35 : decode cX8_done 35 = .ok (.ireturn, 1) := by decide +kernel
theorem dX8_go_0 : decode cX8_go 0 = .ok (.iload_n 1, 1) := by decide +kernel
theorem dX8_go_1 : decode cX8_go 1 = .ok (.iconst 1, 1) := by decide +kernel
theorem dX8_go_2 : decode cX8_go 2 = .ok (.bipush 60, 2) := by decide +kernel
theorem dX8_go_4 : decode cX8_go 4 = .ok (.invokestatic 59, 3) := by decide +kernel
theorem dX8_go_7 : decode cX8_go 7 = .ok (.ifCond .ne 9, 3) := by decide +kernel
theorem dX8_go_10 : decode cX8_go 10 = .ok (.aload_n 0, 1) := by decide +kernel
theorem dX8_go_11 : decode cX8_go 11 = .ok (.iconst 0, 1) := by decide +kernel
theorem dX8_go_12 : decode cX8_go 12 = .ok (.invokevirtual 119, 3) := by decide +kernel
theorem dX8_go_15 : decode cX8_go 15 = .ok (.ireturn, 1) := by decide +kernel
theorem dX8_go_16 : decode cX8_go 16 = .ok (.aload_n 0, 1) := by decide +kernel
theorem dX8_go_17 : decode cX8_go 17 = .ok (.getfield 9, 3) := by decide +kernel
theorem dX8_go_20 : decode cX8_go 20 = .ok (.iconst 0, 1) := by decide +kernel
theorem dX8_go_21 : decode cX8_go 21 = .ok (.iaload, 1) := by decide +kernel
theorem dX8_go_22 : decode cX8_go 22 = .ok (.iload_n 1, 1) := by decide +kernel
theorem dX8_go_23 : decode cX8_go 23 = .ok (.iadd, 1) := by decide +kernel
theorem dX8_go_24 : decode cX8_go 24 = .ok (.ldc 57, 2) := by decide +kernel
theorem dX8_go_26 : decode cX8_go 26 = .ok (.if_icmp .le 9, 3) := by decide +kernel
theorem dX8_go_29 : decode cX8_go 29 = .ok (.aload_n 0, 1) := by decide +kernel
theorem dX8_go_30 : decode cX8_go 30 = .ok (.iconst 4, 1) := by decide +kernel
theorem dX8_go_31 : decode cX8_go 31 = .ok (.invokevirtual 119, 3) := by decide +kernel
theorem dX8_go_34 : decode cX8_go 34 = .ok (.ireturn, 1) := by decide +kernel
theorem dX8_go_35 : decode cX8_go 35 = .ok (.iconst 0, 1) := by decide +kernel
theorem dX8_go_36 : decode cX8_go 36 = .ok (.istore_n 2, 1) := by decide +kernel
theorem dX8_go_37 : decode cX8_go 37 = .ok (.iconst 0, 1) := by decide +kernel
theorem dX8_go_38 : decode cX8_go 38 = .ok (.istore_n 3, 1) := by decide +kernel
theorem dX8_go_39 : decode cX8_go 39 = .ok (.iload_n 3, 1) := by decide +kernel
theorem dX8_go_40 : decode cX8_go 40 = .ok (.iload_n 1, 1) := by decide +kernel
theorem dX8_go_41 : decode cX8_go 41 = .ok (.if_icmp .ge 16, 3) := by decide +kernel
theorem dX8_go_44 : decode cX8_go 44 = .ok (.iload_n 2, 1) := by decide +kernel
theorem dX8_go_45 : decode cX8_go 45 = .ok (.aload_n 0, 1) := by decide +kernel
theorem dX8_go_46 : decode cX8_go 46 = .ok (.invokevirtual 140, 3) := by decide +kernel
theorem dX8_go_49 : decode cX8_go 49 = .ok (.iadd, 1) := by decide +kernel
theorem dX8_go_50 : decode cX8_go 50 = .ok (.istore_n 2, 1) := by decide +kernel
theorem dX8_go_51 : decode cX8_go 51 = .ok (.iinc 3 1, 3) := by decide +kernel
theorem dX8_go_54 : decode cX8_go 54 = .ok (.goto (-15), 3) := by decide +kernel
theorem dX8_go_57 : decode cX8_go 57 = .ok (.aload_n 0, 1) := by decide +kernel
theorem dX8_go_58 : decode cX8_go 58 = .ok (.invokevirtual 95, 3) := by decide +kernel
theorem dX8_go_61 : decode cX8_go 61 = .ok (.invokestatic 143, 3) := by decide +kernel
theorem dX8_go_64 : decode cX8_go 64 = .ok (.ireturn, 1) := by decide +kernel
theorem dX8_now_0 : decode cX8_now 0 = .ok (.iload_n 1, 1) := by decide +kernel
theorem dX8_now_1 : decode cX8_now 1 = .ok (.tableswitch 64 0 4 #[35, 42, 47, 52, 57], 35) := by decide +kernel
theorem dX8_now_36 : decode cX8_now 36 = .ok (.aload_n 0, 1) := by decide +kernel
theorem dX8_now_37 : decode cX8_now 37 = .ok (.getfield 9, 3) := by decide +kernel
theorem dX8_now_40 : decode cX8_now 40 = .ok (.iconst 0, 1) := by decide +kernel
theorem dX8_now_41 : decode cX8_now 41 = .ok (.iaload, 1) := by decide +kernel
theorem dX8_now_42 : decode cX8_now 42 = .ok (.ireturn, 1) := by decide +kernel
theorem dX8_now_43 : decode cX8_now 43 = .ok (.aload_n 0, 1) := by decide +kernel
theorem dX8_now_44 : decode cX8_now 44 = .ok (.invokevirtual 95, 3) := by decide +kernel
theorem dX8_now_47 : decode cX8_now 47 = .ok (.ireturn, 1) := by decide +kernel
theorem dX8_now_48 : decode cX8_now 48 = .ok (.aload_n 0, 1) := by decide +kernel
theorem dX8_now_49 : decode cX8_now 49 = .ok (.invokevirtual 146, 3) := by decide +kernel
theorem dX8_now_52 : decode cX8_now 52 = .ok (.ireturn, 1) := by decide +kernel
theorem dX8_now_53 : decode cX8_now 53 = .ok (.aload_n 0, 1) := by decide +kernel
theorem dX8_now_54 : decode cX8_now 54 = .ok (.invokevirtual 149, 3) := by decide +kernel
theorem dX8_now_57 : decode cX8_now 57 = .ok (.ireturn, 1) := by decide +kernel
theorem dX8_now_58 : decode cX8_now 58 = .ok (.aload_n 0, 1) := by decide +kernel
theorem dX8_now_59 : decode cX8_now 59 = .ok (.getfield 9, 3) := by decide +kernel
theorem dX8_now_62 : decode cX8_now 62 = .ok (.iconst 1, 1) := by decide +kernel
theorem dX8_now_63 : decode cX8_now 63 = .ok (.iaload, 1) := by decide +kernel
theorem dX8_now_64 : decode cX8_now 64 = .ok (.ireturn, 1) := by decide +kernel
theorem dX8_now_65 : decode cX8_now 65 = .ok (.aload_n 0, 1) := by decide +kernel
theorem dX8_now_66 : decode cX8_now 66 = .ok (.iconst 0, 1) := by decide +kernel
theorem dX8_now_67 : decode cX8_now 67 = .ok (.invokevirtual 119, 3) := by decide +kernel
theorem dX8_now_70 : decode cX8_now 70 = .ok (.ireturn, 1) := by decide +kernel
theorem dX8_ahead_0 : decode cX8_ahead 0 = .ok (.iload_n 1, 1) := by decide +kernel
theorem dX8_ahead_1 : decode cX8_ahead 1 = .ok (.iconst 0, 1) := by decide +kernel
theorem dX8_ahead_2 : decode cX8_ahead 2 = .ok (.bipush 100, 2) := by decide +kernel
theorem dX8_ahead_4 : decode cX8_ahead 4 = .ok (.invokestatic 59, 3) := by decide +kernel
theorem dX8_ahead_7 : decode cX8_ahead 7 = .ok (.ifCond .ne 9, 3) := by decide +kernel
theorem dX8_ahead_10 : decode cX8_ahead 10 = .ok (.aload_n 0, 1) := by decide +kernel
theorem dX8_ahead_11 : decode cX8_ahead 11 = .ok (.iconst 0, 1) := by decide +kernel
theorem dX8_ahead_12 : decode cX8_ahead 12 = .ok (.invokevirtual 119, 3) := by decide +kernel
theorem dX8_ahead_15 : decode cX8_ahead 15 = .ok (.ireturn, 1) := by decide +kernel
theorem dX8_ahead_16 : decode cX8_ahead 16 = .ok (.aload_n 0, 1) := by decide +kernel
theorem dX8_ahead_17 : decode cX8_ahead 17 = .ok (.invokevirtual 152, 3) := by decide +kernel
theorem dX8_ahead_20 : decode cX8_ahead 20 = .ok (.iconst 0, 1) := by decide +kernel
theorem dX8_ahead_21 : decode cX8_ahead 21 = .ok (.istore_n 2, 1) := by decide +kernel
theorem dX8_ahead_22 : decode cX8_ahead 22 = .ok (.iconst 0, 1) := by decide +kernel
theorem dX8_ahead_23 : decode cX8_ahead 23 = .ok (.istore_n 3, 1) := by decide +kernel
theorem dX8_ahead_24 : decode cX8_ahead 24 = .ok (.iload_n 3, 1) := by decide +kernel
theorem dX8_ahead_25 : decode cX8_ahead 25 = .ok (.iload_n 1, 1) := by decide +kernel
theorem dX8_ahead_26 : decode cX8_ahead 26 = .ok (.if_icmp .ge 16, 3) := by decide +kernel
theorem dX8_ahead_29 : decode cX8_ahead 29 = .ok (.iload_n 2, 1) := by decide +kernel
theorem dX8_ahead_30 : decode cX8_ahead 30 = .ok (.aload_n 0, 1) := by decide +kernel
theorem dX8_ahead_31 : decode cX8_ahead 31 = .ok (.invokevirtual 140, 3) := by decide +kernel
theorem dX8_ahead_34 : decode cX8_ahead 34 = .ok (.iadd, 1) := by decide +kernel
theorem dX8_ahead_35 : decode cX8_ahead 35 = .ok (.istore_n 2, 1) := by decide +kernel
theorem dX8_ahead_36 : decode cX8_ahead 36 = .ok (.iinc 3 1, 3) := by decide +kernel
theorem dX8_ahead_39 : decode cX8_ahead 39 = .ok (.goto (-15), 3) := by decide +kernel
theorem dX8_ahead_42 : decode cX8_ahead 42 = .ok (.aload_n 0, 1) := by decide +kernel
theorem dX8_ahead_43 : decode cX8_ahead 43 = .ok (.invokevirtual 146, 3) := by decide +kernel
theorem dX8_ahead_46 : decode cX8_ahead 46 = .ok (.istore_n 3, 1) := by decide +kernel
theorem dX8_ahead_47 : decode cX8_ahead 47 = .ok (.aload_n 0, 1) := by decide +kernel
theorem dX8_ahead_48 : decode cX8_ahead 48 = .ok (.invokevirtual 155, 3) := by decide +kernel
theorem dX8_ahead_51 : decode cX8_ahead 51 = .ok (.iload_n 3, 1) := by decide +kernel
theorem dX8_ahead_52 : decode cX8_ahead 52 = .ok (.ireturn, 1) := by decide +kernel
theorem dX8_spoils_0 : decode cX8_spoils 0 = .ok (.iload_n 1, 1) := by decide +kernel
theorem dX8_spoils_1 : decode cX8_spoils 1 = .ok (.iconst 0, 1) := by decide +kernel
theorem dX8_spoils_2 : decode cX8_spoils 2 = .ok (.bipush 100, 2) := by decide +kernel
theorem dX8_spoils_4 : decode cX8_spoils 4 = .ok (.invokestatic 59, 3) := by decide +kernel
theorem dX8_spoils_7 : decode cX8_spoils 7 = .ok (.ifCond .ne 9, 3) := by decide +kernel
theorem dX8_spoils_10 : decode cX8_spoils 10 = .ok (.aload_n 0, 1) := by decide +kernel
theorem dX8_spoils_11 : decode cX8_spoils 11 = .ok (.iconst 0, 1) := by decide +kernel
theorem dX8_spoils_12 : decode cX8_spoils 12 = .ok (.invokevirtual 119, 3) := by decide +kernel
theorem dX8_spoils_15 : decode cX8_spoils 15 = .ok (.ireturn, 1) := by decide +kernel
theorem dX8_spoils_16 : decode cX8_spoils 16 = .ok (.aload_n 0, 1) := by decide +kernel
theorem dX8_spoils_17 : decode cX8_spoils 17 = .ok (.invokevirtual 152, 3) := by decide +kernel
theorem dX8_spoils_20 : decode cX8_spoils 20 = .ok (.iconst 0, 1) := by decide +kernel
theorem dX8_spoils_21 : decode cX8_spoils 21 = .ok (.istore_n 2, 1) := by decide +kernel
theorem dX8_spoils_22 : decode cX8_spoils 22 = .ok (.iconst 0, 1) := by decide +kernel
theorem dX8_spoils_23 : decode cX8_spoils 23 = .ok (.istore_n 3, 1) := by decide +kernel
theorem dX8_spoils_24 : decode cX8_spoils 24 = .ok (.iload_n 3, 1) := by decide +kernel
theorem dX8_spoils_25 : decode cX8_spoils 25 = .ok (.iload_n 1, 1) := by decide +kernel
theorem dX8_spoils_26 : decode cX8_spoils 26 = .ok (.if_icmp .ge 16, 3) := by decide +kernel
theorem dX8_spoils_29 : decode cX8_spoils 29 = .ok (.iload_n 2, 1) := by decide +kernel
theorem dX8_spoils_30 : decode cX8_spoils 30 = .ok (.aload_n 0, 1) := by decide +kernel
theorem dX8_spoils_31 : decode cX8_spoils 31 = .ok (.invokevirtual 140, 3) := by decide +kernel
theorem dX8_spoils_34 : decode cX8_spoils 34 = .ok (.iadd, 1) := by decide +kernel
theorem dX8_spoils_35 : decode cX8_spoils 35 = .ok (.istore_n 2, 1) := by decide +kernel
theorem dX8_spoils_36 : decode cX8_spoils 36 = .ok (.iinc 3 1, 3) := by decide +kernel
theorem dX8_spoils_39 : decode cX8_spoils 39 = .ok (.goto (-15), 3) := by decide +kernel
theorem dX8_spoils_42 : decode cX8_spoils 42 = .ok (.aload_n 0, 1) := by decide +kernel
theorem dX8_spoils_43 : decode cX8_spoils 43 = .ok (.invokevirtual 155, 3) := by decide +kernel
theorem dX8_spoils_46 : decode cX8_spoils 46 = .ok (.iload_n 2, 1) := by decide +kernel
theorem dX8_spoils_47 : decode cX8_spoils 47 = .ok (.ireturn, 1) := by decide +kernel
theorem dX8_ripe_0 : decode cX8_ripe 0 = .ok (.aload_n 0, 1) := by decide +kernel
theorem dX8_ripe_1 : decode cX8_ripe 1 = .ok (.iload_n 1, 1) := by decide +kernel
theorem dX8_ripe_2 : decode cX8_ripe 2 = .ok (.invokevirtual 122, 3) := by decide +kernel
theorem dX8_ripe_5 : decode cX8_ripe 5 = .ok (.ifCond .ne 9, 3) := by decide +kernel
theorem dX8_ripe_8 : decode cX8_ripe 8 = .ok (.aload_n 0, 1) := by decide +kernel
theorem dX8_ripe_9 : decode cX8_ripe 9 = .ok (.iconst 0, 1) := by decide +kernel
theorem dX8_ripe_10 : decode cX8_ripe 10 = .ok (.invokevirtual 119, 3) := by decide +kernel
theorem dX8_ripe_13 : decode cX8_ripe 13 = .ok (.ireturn, 1) := by decide +kernel
theorem dX8_ripe_14 : decode cX8_ripe 14 = .ok (.aload_n 0, 1) := by decide +kernel
theorem dX8_ripe_15 : decode cX8_ripe 15 = .ok (.iload_n 1, 1) := by decide +kernel
theorem dX8_ripe_16 : decode cX8_ripe 16 = .ok (.iconst 0, 1) := by decide +kernel
theorem dX8_ripe_17 : decode cX8_ripe 17 = .ok (.invokevirtual 63, 3) := by decide +kernel
theorem dX8_ripe_20 : decode cX8_ripe 20 = .ok (.istore_n 2, 1) := by decide +kernel
theorem dX8_ripe_21 : decode cX8_ripe 21 = .ok (.aload_n 0, 1) := by decide +kernel
theorem dX8_ripe_22 : decode cX8_ripe 22 = .ok (.iload_n 1, 1) := by decide +kernel
theorem dX8_ripe_23 : decode cX8_ripe 23 = .ok (.iconst 2, 1) := by decide +kernel
theorem dX8_ripe_24 : decode cX8_ripe 24 = .ok (.invokevirtual 63, 3) := by decide +kernel
theorem dX8_ripe_27 : decode cX8_ripe 27 = .ok (.istore_n 3, 1) := by decide +kernel
theorem dX8_ripe_28 : decode cX8_ripe 28 = .ok (.iconst 0, 1) := by decide +kernel
theorem dX8_ripe_29 : decode cX8_ripe 29 = .ok (.istore 4, 2) := by decide +kernel
theorem dX8_ripe_31 : decode cX8_ripe 31 = .ok (.iconst 1, 1) := by decide +kernel
theorem dX8_ripe_32 : decode cX8_ripe 32 = .ok (.istore 5, 2) := by decide +kernel
theorem dX8_ripe_34 : decode cX8_ripe 34 = .ok (.iload 5, 2) := by decide +kernel
theorem dX8_ripe_36 : decode cX8_ripe 36 = .ok (.bipush 100, 2) := by decide +kernel
theorem dX8_ripe_38 : decode cX8_ripe 38 = .ok (.if_icmp .gt 50, 3) := by decide +kernel
theorem dX8_ripe_41 : decode cX8_ripe 41 = .ok (.iload_n 3, 1) := by decide +kernel
theorem dX8_ripe_42 : decode cX8_ripe 42 = .ok (.iload 5, 2) := by decide +kernel
theorem dX8_ripe_44 : decode cX8_ripe 44 = .ok (.iadd, 1) := by decide +kernel
theorem dX8_ripe_45 : decode cX8_ripe 45 = .ok (.iload_n 2, 1) := by decide +kernel
theorem dX8_ripe_46 : decode cX8_ripe 46 = .ok (.invokestatic 84, 3) := by decide +kernel
theorem dX8_ripe_49 : decode cX8_ripe 49 = .ok (.if_icmp .gt 39, 3) := by decide +kernel
theorem dX8_ripe_52 : decode cX8_ripe 52 = .ok (.aload_n 0, 1) := by decide +kernel
theorem dX8_ripe_53 : decode cX8_ripe 53 = .ok (.iload_n 1, 1) := by decide +kernel
theorem dX8_ripe_54 : decode cX8_ripe 54 = .ok (.iload_n 2, 1) := by decide +kernel
theorem dX8_ripe_55 : decode cX8_ripe 55 = .ok (.iload_n 3, 1) := by decide +kernel
theorem dX8_ripe_56 : decode cX8_ripe 56 = .ok (.iload 5, 2) := by decide +kernel
theorem dX8_ripe_58 : decode cX8_ripe 58 = .ok (.invokevirtual 158, 3) := by decide +kernel
theorem dX8_ripe_61 : decode cX8_ripe 61 = .ok (.aload_n 0, 1) := by decide +kernel
theorem dX8_ripe_62 : decode cX8_ripe 62 = .ok (.iload_n 1, 1) := by decide +kernel
theorem dX8_ripe_63 : decode cX8_ripe 63 = .ok (.iload_n 2, 1) := by decide +kernel
theorem dX8_ripe_64 : decode cX8_ripe 64 = .ok (.iload_n 3, 1) := by decide +kernel
theorem dX8_ripe_65 : decode cX8_ripe 65 = .ok (.iload 4, 2) := by decide +kernel
theorem dX8_ripe_67 : decode cX8_ripe 67 = .ok (.invokevirtual 158, 3) := by decide +kernel
theorem dX8_ripe_70 : decode cX8_ripe 70 = .ok (.if_icmp .le 8, 3) := by decide +kernel
theorem dX8_ripe_73 : decode cX8_ripe 73 = .ok (.iload 5, 2) := by decide +kernel
theorem dX8_ripe_75 : decode cX8_ripe 75 = .ok (.goto 5, 3) := by decide +kernel
theorem dX8_ripe_78 : decode cX8_ripe 78 = .ok (.iload 4, 2) := by decide +kernel
theorem dX8_ripe_80 : decode cX8_ripe 80 = .ok (.istore 4, 2) := by decide +kernel
theorem dX8_ripe_82 : decode cX8_ripe 82 = .ok (.iinc 5 1, 3) := by decide +kernel
theorem dX8_ripe_85 : decode cX8_ripe 85 = .ok (.goto (-51), 3) := by decide +kernel
theorem dX8_ripe_88 : decode cX8_ripe 88 = .ok (.iload 4, 2) := by decide +kernel
theorem dX8_ripe_90 : decode cX8_ripe 90 = .ok (.ireturn, 1) := by decide +kernel
theorem dX8_lasts_0 : decode cX8_lasts 0 = .ok (.aload_n 0, 1) := by decide +kernel
theorem dX8_lasts_1 : decode cX8_lasts 1 = .ok (.iload_n 1, 1) := by decide +kernel
theorem dX8_lasts_2 : decode cX8_lasts 2 = .ok (.invokevirtual 122, 3) := by decide +kernel
theorem dX8_lasts_5 : decode cX8_lasts 5 = .ok (.ifCond .eq 28, 3) := by decide +kernel
theorem dX8_lasts_8 : decode cX8_lasts 8 = .ok (.iconst 1, 1) := by decide +kernel
theorem dX8_lasts_9 : decode cX8_lasts 9 = .ok (.aload_n 0, 1) := by decide +kernel
theorem dX8_lasts_10 : decode cX8_lasts 10 = .ok (.iload_n 1, 1) := by decide +kernel
theorem dX8_lasts_11 : decode cX8_lasts 11 = .ok (.iconst 0, 1) := by decide +kernel
theorem dX8_lasts_12 : decode cX8_lasts 12 = .ok (.invokevirtual 63, 3) := by decide +kernel
theorem dX8_lasts_15 : decode cX8_lasts 15 = .ok (.invokestatic 84, 3) := by decide +kernel
theorem dX8_lasts_18 : decode cX8_lasts 18 = .ok (.aload_n 0, 1) := by decide +kernel
theorem dX8_lasts_19 : decode cX8_lasts 19 = .ok (.iload_n 1, 1) := by decide +kernel
theorem dX8_lasts_20 : decode cX8_lasts 20 = .ok (.iconst 2, 1) := by decide +kernel
theorem dX8_lasts_21 : decode cX8_lasts 21 = .ok (.invokevirtual 63, 3) := by decide +kernel
theorem dX8_lasts_24 : decode cX8_lasts 24 = .ok (.isub, 1) := by decide +kernel
theorem dX8_lasts_25 : decode cX8_lasts 25 = .ok (.iconst 1, 1) := by decide +kernel
theorem dX8_lasts_26 : decode cX8_lasts 26 = .ok (.iadd, 1) := by decide +kernel
theorem dX8_lasts_27 : decode cX8_lasts 27 = .ok (.invokestatic 74, 3) := by decide +kernel
theorem dX8_lasts_30 : decode cX8_lasts 30 = .ok (.goto 8, 3) := by decide +kernel
theorem dX8_lasts_33 : decode cX8_lasts 33 = .ok (.aload_n 0, 1) := by decide +kernel
theorem dX8_lasts_34 : decode cX8_lasts 34 = .ok (.iconst 0, 1) := by decide +kernel
theorem dX8_lasts_35 : decode cX8_lasts 35 = .ok (.invokevirtual 119, 3) := by decide +kernel
theorem dX8_lasts_38 : decode cX8_lasts 38 = .ok (.ireturn, 1) := by decide +kernel
theorem dX8_when_0 : decode cX8_when 0 = .ok (.iload_n 1, 1) := by decide +kernel
theorem dX8_when_1 : decode cX8_when 1 = .ok (.iconst 0, 1) := by decide +kernel
theorem dX8_when_2 : decode cX8_when 2 = .ok (.sipush 9999, 3) := by decide +kernel
theorem dX8_when_5 : decode cX8_when 5 = .ok (.invokestatic 59, 3) := by decide +kernel
theorem dX8_when_8 : decode cX8_when 8 = .ok (.ifCond .ne 9, 3) := by decide +kernel
theorem dX8_when_11 : decode cX8_when 11 = .ok (.aload_n 0, 1) := by decide +kernel
theorem dX8_when_12 : decode cX8_when 12 = .ok (.iconst 0, 1) := by decide +kernel
theorem dX8_when_13 : decode cX8_when 13 = .ok (.invokevirtual 119, 3) := by decide +kernel
theorem dX8_when_16 : decode cX8_when 16 = .ok (.ireturn, 1) := by decide +kernel
theorem dX8_when_17 : decode cX8_when 17 = .ok (.aload_n 0, 1) := by decide +kernel
theorem dX8_when_18 : decode cX8_when 18 = .ok (.invokevirtual 152, 3) := by decide +kernel
theorem dX8_when_21 : decode cX8_when 21 = .ok (.iconst 0, 1) := by decide +kernel
theorem dX8_when_22 : decode cX8_when 22 = .ok (.istore_n 2, 1) := by decide +kernel
theorem dX8_when_23 : decode cX8_when 23 = .ok (.iconst 0, 1) := by decide +kernel
theorem dX8_when_24 : decode cX8_when 24 = .ok (.istore_n 3, 1) := by decide +kernel
theorem dX8_when_25 : decode cX8_when 25 = .ok (.iload_n 2, 1) := by decide +kernel
theorem dX8_when_26 : decode cX8_when 26 = .ok (.bipush 100, 2) := by decide +kernel
theorem dX8_when_28 : decode cX8_when 28 = .ok (.if_icmp .gt 24, 3) := by decide +kernel
theorem dX8_when_31 : decode cX8_when 31 = .ok (.aload_n 0, 1) := by decide +kernel
theorem dX8_when_32 : decode cX8_when 32 = .ok (.invokevirtual 146, 3) := by decide +kernel
theorem dX8_when_35 : decode cX8_when 35 = .ok (.iload_n 1, 1) := by decide +kernel
theorem dX8_when_36 : decode cX8_when 36 = .ok (.if_icmp .ge 16, 3) := by decide +kernel
theorem dX8_when_39 : decode cX8_when 39 = .ok (.iload_n 3, 1) := by decide +kernel
theorem dX8_when_40 : decode cX8_when 40 = .ok (.aload_n 0, 1) := by decide +kernel
theorem dX8_when_41 : decode cX8_when 41 = .ok (.invokevirtual 140, 3) := by decide +kernel
theorem dX8_when_44 : decode cX8_when 44 = .ok (.iadd, 1) := by decide +kernel
theorem dX8_when_45 : decode cX8_when 45 = .ok (.istore_n 3, 1) := by decide +kernel
theorem dX8_when_46 : decode cX8_when 46 = .ok (.iinc 2 1, 3) := by decide +kernel
theorem dX8_when_49 : decode cX8_when 49 = .ok (.goto (-24), 3) := by decide +kernel
theorem dX8_when_52 : decode cX8_when 52 = .ok (.aload_n 0, 1) := by decide +kernel
theorem dX8_when_53 : decode cX8_when 53 = .ok (.invokevirtual 155, 3) := by decide +kernel
theorem dX8_when_56 : decode cX8_when 56 = .ok (.iload_n 2, 1) := by decide +kernel
theorem dX8_when_57 : decode cX8_when 57 = .ok (.bipush 100, 2) := by decide +kernel
theorem dX8_when_59 : decode cX8_when 59 = .ok (.if_icmp .le 11, 3) := by decide +kernel
theorem dX8_when_62 : decode cX8_when 62 = .ok (.aload_n 0, 1) := by decide +kernel
theorem dX8_when_63 : decode cX8_when 63 = .ok (.iconst 3, 1) := by decide +kernel
theorem dX8_when_64 : decode cX8_when 64 = .ok (.invokevirtual 119, 3) := by decide +kernel
theorem dX8_when_67 : decode cX8_when 67 = .ok (.goto 4, 3) := by decide +kernel
theorem dX8_when_70 : decode cX8_when 70 = .ok (.iload_n 2, 1) := by decide +kernel
theorem dX8_when_71 : decode cX8_when 71 = .ok (.ireturn, 1) := by decide +kernel
theorem dX8_kindFor_0 : decode cX8_kindFor 0 = .ok (.aload_n 0, 1) := by decide +kernel
theorem dX8_kindFor_1 : decode cX8_kindFor 1 = .ok (.iload_n 1, 1) := by decide +kernel
theorem dX8_kindFor_2 : decode cX8_kindFor 2 = .ok (.invokevirtual 122, 3) := by decide +kernel
theorem dX8_kindFor_5 : decode cX8_kindFor 5 = .ok (.ifCond .eq 13, 3) := by decide +kernel
theorem dX8_kindFor_8 : decode cX8_kindFor 8 = .ok (.iload_n 2, 1) := by decide +kernel
theorem dX8_kindFor_9 : decode cX8_kindFor 9 = .ok (.iconst 0, 1) := by decide +kernel
theorem dX8_kindFor_10 : decode cX8_kindFor 10 = .ok (.bipush 100, 2) := by decide +kernel
theorem dX8_kindFor_12 : decode cX8_kindFor 12 = .ok (.invokestatic 59, 3) := by decide +kernel
theorem dX8_kindFor_15 : decode cX8_kindFor 15 = .ok (.ifCond .ne 9, 3) := by decide +kernel
theorem dX8_kindFor_18 : decode cX8_kindFor 18 = .ok (.aload_n 0, 1) := by decide +kernel
theorem dX8_kindFor_19 : decode cX8_kindFor 19 = .ok (.iconst 0, 1) := by decide +kernel
theorem dX8_kindFor_20 : decode cX8_kindFor 20 = .ok (.invokevirtual 119, 3) := by decide +kernel
theorem dX8_kindFor_23 : decode cX8_kindFor 23 = .ok (.ireturn, 1) := by decide +kernel
theorem dX8_kindFor_24 : decode cX8_kindFor 24 = .ok (.iconst 0, 1) := by decide +kernel
theorem dX8_kindFor_25 : decode cX8_kindFor 25 = .ok (.istore_n 3, 1) := by decide +kernel
theorem dX8_kindFor_26 : decode cX8_kindFor 26 = .ok (.iconst 1, 1) := by decide +kernel
theorem dX8_kindFor_27 : decode cX8_kindFor 27 = .ok (.istore 4, 2) := by decide +kernel
theorem dX8_kindFor_29 : decode cX8_kindFor 29 = .ok (.iload 4, 2) := by decide +kernel
theorem dX8_kindFor_31 : decode cX8_kindFor 31 = .ok (.bipush 6, 2) := by decide +kernel
theorem dX8_kindFor_33 : decode cX8_kindFor 33 = .ok (.if_icmp .gt 46, 3) := by decide +kernel
theorem dX8_kindFor_36 : decode cX8_kindFor 36 = .ok (.aload_n 0, 1) := by decide +kernel
theorem dX8_kindFor_37 : decode cX8_kindFor 37 = .ok (.iload_n 1, 1) := by decide +kernel
theorem dX8_kindFor_38 : decode cX8_kindFor 38 = .ok (.iload 4, 2) := by decide +kernel
theorem dX8_kindFor_40 : decode cX8_kindFor 40 = .ok (.aload_n 0, 1) := by decide +kernel
theorem dX8_kindFor_41 : decode cX8_kindFor 41 = .ok (.iload_n 1, 1) := by decide +kernel
theorem dX8_kindFor_42 : decode cX8_kindFor 42 = .ok (.iconst 2, 1) := by decide +kernel
theorem dX8_kindFor_43 : decode cX8_kindFor 43 = .ok (.invokevirtual 63, 3) := by decide +kernel
theorem dX8_kindFor_46 : decode cX8_kindFor 46 = .ok (.iload_n 2, 1) := by decide +kernel
theorem dX8_kindFor_47 : decode cX8_kindFor 47 = .ok (.invokevirtual 158, 3) := by decide +kernel
theorem dX8_kindFor_50 : decode cX8_kindFor 50 = .ok (.aload_n 0, 1) := by decide +kernel
theorem dX8_kindFor_51 : decode cX8_kindFor 51 = .ok (.iload_n 1, 1) := by decide +kernel
theorem dX8_kindFor_52 : decode cX8_kindFor 52 = .ok (.iload_n 3, 1) := by decide +kernel
theorem dX8_kindFor_53 : decode cX8_kindFor 53 = .ok (.aload_n 0, 1) := by decide +kernel
theorem dX8_kindFor_54 : decode cX8_kindFor 54 = .ok (.iload_n 1, 1) := by decide +kernel
theorem dX8_kindFor_55 : decode cX8_kindFor 55 = .ok (.iconst 2, 1) := by decide +kernel
theorem dX8_kindFor_56 : decode cX8_kindFor 56 = .ok (.invokevirtual 63, 3) := by decide +kernel
theorem dX8_kindFor_59 : decode cX8_kindFor 59 = .ok (.iload_n 2, 1) := by decide +kernel
theorem dX8_kindFor_60 : decode cX8_kindFor 60 = .ok (.invokevirtual 158, 3) := by decide +kernel
theorem dX8_kindFor_63 : decode cX8_kindFor 63 = .ok (.if_icmp .le 8, 3) := by decide +kernel
theorem dX8_kindFor_66 : decode cX8_kindFor 66 = .ok (.iload 4, 2) := by decide +kernel
theorem dX8_kindFor_68 : decode cX8_kindFor 68 = .ok (.goto 4, 3) := by decide +kernel
theorem dX8_kindFor_71 : decode cX8_kindFor 71 = .ok (.iload_n 3, 1) := by decide +kernel
theorem dX8_kindFor_72 : decode cX8_kindFor 72 = .ok (.istore_n 3, 1) := by decide +kernel
theorem dX8_kindFor_73 : decode cX8_kindFor 73 = .ok (.iinc 4 1, 3) := by decide +kernel
theorem dX8_kindFor_76 : decode cX8_kindFor 76 = .ok (.goto (-47), 3) := by decide +kernel
theorem dX8_kindFor_79 : decode cX8_kindFor 79 = .ok (.iload_n 3, 1) := by decide +kernel
theorem dX8_kindFor_80 : decode cX8_kindFor 80 = .ok (.ireturn, 1) := by decide +kernel
theorem dX8_everyFor_0 : decode cX8_everyFor 0 = .ok (.iload_n 1, 1) := by decide +kernel
theorem dX8_everyFor_1 : decode cX8_everyFor 1 = .ok (.invokestatic 125, 3) := by decide +kernel
theorem dX8_everyFor_4 : decode cX8_everyFor 4 = .ok (.ifCond .eq 13, 3) := by decide +kernel
theorem dX8_everyFor_7 : decode cX8_everyFor 7 = .ok (.iload_n 2, 1) := by decide +kernel
theorem dX8_everyFor_8 : decode cX8_everyFor 8 = .ok (.iconst 0, 1) := by decide +kernel
theorem dX8_everyFor_9 : decode cX8_everyFor 9 = .ok (.bipush 60, 2) := by decide +kernel
theorem dX8_everyFor_11 : decode cX8_everyFor 11 = .ok (.invokestatic 59, 3) := by decide +kernel
theorem dX8_everyFor_14 : decode cX8_everyFor 14 = .ok (.ifCond .ne 9, 3) := by decide +kernel
theorem dX8_everyFor_17 : decode cX8_everyFor 17 = .ok (.aload_n 0, 1) := by decide +kernel
theorem dX8_everyFor_18 : decode cX8_everyFor 18 = .ok (.iconst 0, 1) := by decide +kernel
theorem dX8_everyFor_19 : decode cX8_everyFor 19 = .ok (.invokevirtual 119, 3) := by decide +kernel
theorem dX8_everyFor_22 : decode cX8_everyFor 22 = .ok (.ireturn, 1) := by decide +kernel
theorem dX8_everyFor_23 : decode cX8_everyFor 23 = .ok (.aload_n 0, 1) := by decide +kernel
theorem dX8_everyFor_24 : decode cX8_everyFor 24 = .ok (.invokevirtual 152, 3) := by decide +kernel
theorem dX8_everyFor_27 : decode cX8_everyFor 27 = .ok (.iconst 0, 1) := by decide +kernel
theorem dX8_everyFor_28 : decode cX8_everyFor 28 = .ok (.istore_n 3, 1) := by decide +kernel
theorem dX8_everyFor_29 : decode cX8_everyFor 29 = .ok (.iconst 0, 1) := by decide +kernel
theorem dX8_everyFor_30 : decode cX8_everyFor 30 = .ok (.istore 4, 2) := by decide +kernel
theorem dX8_everyFor_32 : decode cX8_everyFor 32 = .ok (.iconst 0, 1) := by decide +kernel
theorem dX8_everyFor_33 : decode cX8_everyFor 33 = .ok (.istore 5, 2) := by decide +kernel
theorem dX8_everyFor_35 : decode cX8_everyFor 35 = .ok (.iconst 1, 1) := by decide +kernel
theorem dX8_everyFor_36 : decode cX8_everyFor 36 = .ok (.istore 6, 2) := by decide +kernel
theorem dX8_everyFor_38 : decode cX8_everyFor 38 = .ok (.iload 6, 2) := by decide +kernel
theorem dX8_everyFor_40 : decode cX8_everyFor 40 = .ok (.bipush 30, 2) := by decide +kernel
theorem dX8_everyFor_42 : decode cX8_everyFor 42 = .ok (.if_icmp .gt 100, 3) := by decide +kernel
theorem dX8_everyFor_45 : decode cX8_everyFor 45 = .ok (.aload_n 0, 1) := by decide +kernel
theorem dX8_everyFor_46 : decode cX8_everyFor 46 = .ok (.getfield 9, 3) := by decide +kernel
theorem dX8_everyFor_49 : decode cX8_everyFor 49 = .ok (.bipush 43, 2) := by decide +kernel
theorem dX8_everyFor_51 : decode cX8_everyFor 51 = .ok (.iconst 4, 1) := by decide +kernel
theorem dX8_everyFor_52 : decode cX8_everyFor 52 = .ok (.iload_n 1, 1) := by decide +kernel
theorem dX8_everyFor_53 : decode cX8_everyFor 53 = .ok (.imul, 1) := by decide +kernel
theorem dX8_everyFor_54 : decode cX8_everyFor 54 = .ok (.iadd, 1) := by decide +kernel
theorem dX8_everyFor_55 : decode cX8_everyFor 55 = .ok (.iconst 0, 1) := by decide +kernel
theorem dX8_everyFor_56 : decode cX8_everyFor 56 = .ok (.iadd, 1) := by decide +kernel
theorem dX8_everyFor_57 : decode cX8_everyFor 57 = .ok (.iload 6, 2) := by decide +kernel
theorem dX8_everyFor_59 : decode cX8_everyFor 59 = .ok (.iastore, 1) := by decide +kernel
theorem dX8_everyFor_60 : decode cX8_everyFor 60 = .ok (.iconst 0, 1) := by decide +kernel
theorem dX8_everyFor_61 : decode cX8_everyFor 61 = .ok (.istore 7, 2) := by decide +kernel
theorem dX8_everyFor_63 : decode cX8_everyFor 63 = .ok (.iload 7, 2) := by decide +kernel
theorem dX8_everyFor_65 : decode cX8_everyFor 65 = .ok (.iload_n 2, 1) := by decide +kernel
theorem dX8_everyFor_66 : decode cX8_everyFor 66 = .ok (.if_icmp .ge 18, 3) := by decide +kernel
theorem dX8_everyFor_69 : decode cX8_everyFor 69 = .ok (.iload 5, 2) := by decide +kernel
theorem dX8_everyFor_71 : decode cX8_everyFor 71 = .ok (.aload_n 0, 1) := by decide +kernel
theorem dX8_everyFor_72 : decode cX8_everyFor 72 = .ok (.invokevirtual 140, 3) := by decide +kernel
theorem dX8_everyFor_75 : decode cX8_everyFor 75 = .ok (.iadd, 1) := by decide +kernel
theorem dX8_everyFor_76 : decode cX8_everyFor 76 = .ok (.istore 5, 2) := by decide +kernel
theorem dX8_everyFor_78 : decode cX8_everyFor 78 = .ok (.iinc 7 1, 3) := by decide +kernel
theorem dX8_everyFor_81 : decode cX8_everyFor 81 = .ok (.goto (-18), 3) := by decide +kernel
theorem dX8_everyFor_84 : decode cX8_everyFor 84 = .ok (.iload_n 3, 1) := by decide +kernel
theorem dX8_everyFor_85 : decode cX8_everyFor 85 = .ok (.ifCond .eq 12, 3) := by decide +kernel
theorem dX8_everyFor_88 : decode cX8_everyFor 88 = .ok (.aload_n 0, 1) := by decide +kernel
theorem dX8_everyFor_89 : decode cX8_everyFor 89 = .ok (.invokevirtual 146, 3) := by decide +kernel
theorem dX8_everyFor_92 : decode cX8_everyFor 92 = .ok (.iload 4, 2) := by decide +kernel
theorem dX8_everyFor_94 : decode cX8_everyFor 94 = .ok (.if_icmp .le 7, 3) := by decide +kernel
theorem dX8_everyFor_97 : decode cX8_everyFor 97 = .ok (.iconst 1, 1) := by decide +kernel
theorem dX8_everyFor_98 : decode cX8_everyFor 98 = .ok (.goto 4, 3) := by decide +kernel
theorem dX8_everyFor_101 : decode cX8_everyFor 101 = .ok (.iconst 0, 1) := by decide +kernel
theorem dX8_everyFor_102 : decode cX8_everyFor 102 = .ok (.istore 7, 2) := by decide +kernel
theorem dX8_everyFor_104 : decode cX8_everyFor 104 = .ok (.iload 7, 2) := by decide +kernel
theorem dX8_everyFor_106 : decode cX8_everyFor 106 = .ok (.ifCond .eq 8, 3) := by decide +kernel
theorem dX8_everyFor_109 : decode cX8_everyFor 109 = .ok (.iload 6, 2) := by decide +kernel
theorem dX8_everyFor_111 : decode cX8_everyFor 111 = .ok (.goto 4, 3) := by decide +kernel
theorem dX8_everyFor_114 : decode cX8_everyFor 114 = .ok (.iload_n 3, 1) := by decide +kernel
theorem dX8_everyFor_115 : decode cX8_everyFor 115 = .ok (.istore_n 3, 1) := by decide +kernel
theorem dX8_everyFor_116 : decode cX8_everyFor 116 = .ok (.iload 7, 2) := by decide +kernel
theorem dX8_everyFor_118 : decode cX8_everyFor 118 = .ok (.ifCond .eq 10, 3) := by decide +kernel
theorem dX8_everyFor_121 : decode cX8_everyFor 121 = .ok (.aload_n 0, 1) := by decide +kernel
theorem dX8_everyFor_122 : decode cX8_everyFor 122 = .ok (.invokevirtual 146, 3) := by decide +kernel
theorem dX8_everyFor_125 : decode cX8_everyFor 125 = .ok (.goto 5, 3) := by decide +kernel
theorem dX8_everyFor_128 : decode cX8_everyFor 128 = .ok (.iload 4, 2) := by decide +kernel
theorem dX8_everyFor_130 : decode cX8_everyFor 130 = .ok (.istore 4, 2) := by decide +kernel
theorem dX8_everyFor_132 : decode cX8_everyFor 132 = .ok (.aload_n 0, 1) := by decide +kernel
theorem dX8_everyFor_133 : decode cX8_everyFor 133 = .ok (.invokevirtual 155, 3) := by decide +kernel
theorem dX8_everyFor_136 : decode cX8_everyFor 136 = .ok (.iinc 6 1, 3) := by decide +kernel
theorem dX8_everyFor_139 : decode cX8_everyFor 139 = .ok (.goto (-101), 3) := by decide +kernel
theorem dX8_everyFor_142 : decode cX8_everyFor 142 = .ok (.iload_n 3, 1) := by decide +kernel
theorem dX8_everyFor_143 : decode cX8_everyFor 143 = .ok (.ireturn, 1) := by decide +kernel
theorem dX8_does_0 : decode cX8_does 0 = .ok (.iload_n 1, 1) := by decide +kernel
theorem dX8_does_1 : decode cX8_does 1 = .ok (.aload_n 0, 1) := by decide +kernel
theorem dX8_does_2 : decode cX8_does 2 = .ok (.invokevirtual 95, 3) := by decide +kernel
theorem dX8_does_5 : decode cX8_does 5 = .ok (.iconst (-1), 1) := by decide +kernel
theorem dX8_does_6 : decode cX8_does 6 = .ok (.ixor, 1) := by decide +kernel
theorem dX8_does_7 : decode cX8_does 7 = .ok (.iand, 1) := by decide +kernel
theorem dX8_does_8 : decode cX8_does 8 = .ok (.ifCond .ne 40, 3) := by decide +kernel
theorem dX8_does_11 : decode cX8_does 11 = .ok (.iload_n 1, 1) := by decide +kernel
theorem dX8_does_12 : decode cX8_does 12 = .ok (.ifCond .eq 11, 3) := by decide +kernel
theorem dX8_does_15 : decode cX8_does 15 = .ok (.aload_n 0, 1) := by decide +kernel
theorem dX8_does_16 : decode cX8_does 16 = .ok (.iload_n 2, 1) := by decide +kernel
theorem dX8_does_17 : decode cX8_does 17 = .ok (.invokevirtual 137, 3) := by decide +kernel
theorem dX8_does_20 : decode cX8_does 20 = .ok (.ifCond .ne 28, 3) := by decide +kernel
theorem dX8_does_23 : decode cX8_does 23 = .ok (.aload_n 0, 1) := by decide +kernel
theorem dX8_does_24 : decode cX8_does 24 = .ok (.iload_n 2, 1) := by decide +kernel
theorem dX8_does_25 : decode cX8_does 25 = .ok (.iconst 3, 1) := by decide +kernel
theorem dX8_does_26 : decode cX8_does 26 = .ok (.invokevirtual 131, 3) := by decide +kernel
theorem dX8_does_29 : decode cX8_does 29 = .ok (.aload_n 0, 1) := by decide +kernel
theorem dX8_does_30 : decode cX8_does 30 = .ok (.iload_n 1, 1) := by decide +kernel
theorem dX8_does_31 : decode cX8_does 31 = .ok (.invokevirtual 99, 3) := by decide +kernel
theorem dX8_does_34 : decode cX8_does 34 = .ok (.iadd, 1) := by decide +kernel
theorem dX8_does_35 : decode cX8_does 35 = .ok (.aload_n 0, 1) := by decide +kernel
theorem dX8_does_36 : decode cX8_does 36 = .ok (.iload_n 2, 1) := by decide +kernel
theorem dX8_does_37 : decode cX8_does 37 = .ok (.iconst 0, 1) := by decide +kernel
theorem dX8_does_38 : decode cX8_does 38 = .ok (.invokevirtual 131, 3) := by decide +kernel
theorem dX8_does_41 : decode cX8_does 41 = .ok (.if_icmp .lt 7, 3) := by decide +kernel
theorem dX8_does_44 : decode cX8_does 44 = .ok (.iconst 1, 1) := by decide +kernel
theorem dX8_does_45 : decode cX8_does 45 = .ok (.goto 4, 3) := by decide +kernel
theorem dX8_does_48 : decode cX8_does 48 = .ok (.iconst 0, 1) := by decide +kernel
theorem dX8_does_49 : decode cX8_does 49 = .ok (.ireturn, 1) := by decide +kernel
theorem dX8_fewest_0 : decode cX8_fewest 0 = .ok (.iload_n 1, 1) := by decide +kernel
theorem dX8_fewest_1 : decode cX8_fewest 1 = .ok (.invokestatic 128, 3) := by decide +kernel
theorem dX8_fewest_4 : decode cX8_fewest 4 = .ok (.ifCond .ne 9, 3) := by decide +kernel
theorem dX8_fewest_7 : decode cX8_fewest 7 = .ok (.aload_n 0, 1) := by decide +kernel
theorem dX8_fewest_8 : decode cX8_fewest 8 = .ok (.iconst 0, 1) := by decide +kernel
theorem dX8_fewest_9 : decode cX8_fewest 9 = .ok (.invokevirtual 119, 3) := by decide +kernel
theorem dX8_fewest_12 : decode cX8_fewest 12 = .ok (.ireturn, 1) := by decide +kernel
theorem dX8_fewest_13 : decode cX8_fewest 13 = .ok (.iconst (-1), 1) := by decide +kernel
theorem dX8_fewest_14 : decode cX8_fewest 14 = .ok (.istore_n 2, 1) := by decide +kernel
theorem dX8_fewest_15 : decode cX8_fewest 15 = .ok (.iconst 0, 1) := by decide +kernel
theorem dX8_fewest_16 : decode cX8_fewest 16 = .ok (.istore_n 3, 1) := by decide +kernel
theorem dX8_fewest_17 : decode cX8_fewest 17 = .ok (.iload_n 3, 1) := by decide +kernel
theorem dX8_fewest_18 : decode cX8_fewest 18 = .ok (.sipush 256, 3) := by decide +kernel
theorem dX8_fewest_21 : decode cX8_fewest 21 = .ok (.if_icmp .ge 51, 3) := by decide +kernel
theorem dX8_fewest_24 : decode cX8_fewest 24 = .ok (.iload_n 2, 1) := by decide +kernel
theorem dX8_fewest_25 : decode cX8_fewest 25 = .ok (.ifCond .lt 14, 3) := by decide +kernel
theorem dX8_fewest_28 : decode cX8_fewest 28 = .ok (.iload_n 3, 1) := by decide +kernel
theorem dX8_fewest_29 : decode cX8_fewest 29 = .ok (.invokestatic 143, 3) := by decide +kernel
theorem dX8_fewest_32 : decode cX8_fewest 32 = .ok (.iload_n 2, 1) := by decide +kernel
theorem dX8_fewest_33 : decode cX8_fewest 33 = .ok (.invokestatic 143, 3) := by decide +kernel
theorem dX8_fewest_36 : decode cX8_fewest 36 = .ok (.if_icmp .ge 7, 3) := by decide +kernel
theorem dX8_fewest_39 : decode cX8_fewest 39 = .ok (.iconst 1, 1) := by decide +kernel
theorem dX8_fewest_40 : decode cX8_fewest 40 = .ok (.goto 4, 3) := by decide +kernel
theorem dX8_fewest_43 : decode cX8_fewest 43 = .ok (.iconst 0, 1) := by decide +kernel
theorem dX8_fewest_44 : decode cX8_fewest 44 = .ok (.istore 4, 2) := by decide +kernel
theorem dX8_fewest_46 : decode cX8_fewest 46 = .ok (.iload 4, 2) := by decide +kernel
theorem dX8_fewest_48 : decode cX8_fewest 48 = .ok (.ifCond .eq 16, 3) := by decide +kernel
theorem dX8_fewest_51 : decode cX8_fewest 51 = .ok (.aload_n 0, 1) := by decide +kernel
theorem dX8_fewest_52 : decode cX8_fewest 52 = .ok (.iload_n 3, 1) := by decide +kernel
theorem dX8_fewest_53 : decode cX8_fewest 53 = .ok (.iload_n 1, 1) := by decide +kernel
theorem dX8_fewest_54 : decode cX8_fewest 54 = .ok (.invokevirtual 161, 3) := by decide +kernel
theorem dX8_fewest_57 : decode cX8_fewest 57 = .ok (.ifCond .eq 7, 3) := by decide +kernel
theorem dX8_fewest_60 : decode cX8_fewest 60 = .ok (.iload_n 3, 1) := by decide +kernel
theorem dX8_fewest_61 : decode cX8_fewest 61 = .ok (.goto 4, 3) := by decide +kernel
theorem dX8_fewest_64 : decode cX8_fewest 64 = .ok (.iload_n 2, 1) := by decide +kernel
theorem dX8_fewest_65 : decode cX8_fewest 65 = .ok (.istore_n 2, 1) := by decide +kernel
theorem dX8_fewest_66 : decode cX8_fewest 66 = .ok (.iinc 3 1, 3) := by decide +kernel
theorem dX8_fewest_69 : decode cX8_fewest 69 = .ok (.goto (-52), 3) := by decide +kernel
theorem dX8_fewest_72 : decode cX8_fewest 72 = .ok (.iload_n 2, 1) := by decide +kernel
theorem dX8_fewest_73 : decode cX8_fewest 73 = .ok (.ifCond .ge 11, 3) := by decide +kernel
theorem dX8_fewest_76 : decode cX8_fewest 76 = .ok (.aload_n 0, 1) := by decide +kernel
theorem dX8_fewest_77 : decode cX8_fewest 77 = .ok (.iconst 3, 1) := by decide +kernel
theorem dX8_fewest_78 : decode cX8_fewest 78 = .ok (.invokevirtual 119, 3) := by decide +kernel
theorem dX8_fewest_81 : decode cX8_fewest 81 = .ok (.goto 4, 3) := by decide +kernel
theorem dX8_fewest_84 : decode cX8_fewest 84 = .ok (.iload_n 2, 1) := by decide +kernel
theorem dX8_fewest_85 : decode cX8_fewest 85 = .ok (.ireturn, 1) := by decide +kernel
theorem dX8_thrifty_0 : decode cX8_thrifty 0 = .ok (.iload_n 1, 1) := by decide +kernel
theorem dX8_thrifty_1 : decode cX8_thrifty 1 = .ok (.invokestatic 128, 3) := by decide +kernel
theorem dX8_thrifty_4 : decode cX8_thrifty 4 = .ok (.ifCond .ne 9, 3) := by decide +kernel
theorem dX8_thrifty_7 : decode cX8_thrifty 7 = .ok (.aload_n 0, 1) := by decide +kernel
theorem dX8_thrifty_8 : decode cX8_thrifty 8 = .ok (.iconst 0, 1) := by decide +kernel
theorem dX8_thrifty_9 : decode cX8_thrifty 9 = .ok (.invokevirtual 119, 3) := by decide +kernel
theorem dX8_thrifty_12 : decode cX8_thrifty 12 = .ok (.ireturn, 1) := by decide +kernel
theorem dX8_thrifty_13 : decode cX8_thrifty 13 = .ok (.iconst (-1), 1) := by decide +kernel
theorem dX8_thrifty_14 : decode cX8_thrifty 14 = .ok (.istore_n 2, 1) := by decide +kernel
theorem dX8_thrifty_15 : decode cX8_thrifty 15 = .ok (.iconst 0, 1) := by decide +kernel
theorem dX8_thrifty_16 : decode cX8_thrifty 16 = .ok (.istore_n 3, 1) := by decide +kernel
theorem dX8_thrifty_17 : decode cX8_thrifty 17 = .ok (.iload_n 3, 1) := by decide +kernel
theorem dX8_thrifty_18 : decode cX8_thrifty 18 = .ok (.sipush 256, 3) := by decide +kernel
theorem dX8_thrifty_21 : decode cX8_thrifty 21 = .ok (.if_icmp .ge 53, 3) := by decide +kernel
theorem dX8_thrifty_24 : decode cX8_thrifty 24 = .ok (.aload_n 0, 1) := by decide +kernel
theorem dX8_thrifty_25 : decode cX8_thrifty 25 = .ok (.iload_n 3, 1) := by decide +kernel
theorem dX8_thrifty_26 : decode cX8_thrifty 26 = .ok (.iload_n 1, 1) := by decide +kernel
theorem dX8_thrifty_27 : decode cX8_thrifty 27 = .ok (.invokevirtual 161, 3) := by decide +kernel
theorem dX8_thrifty_30 : decode cX8_thrifty 30 = .ok (.ifCond .eq 24, 3) := by decide +kernel
theorem dX8_thrifty_33 : decode cX8_thrifty 33 = .ok (.iload_n 2, 1) := by decide +kernel
theorem dX8_thrifty_34 : decode cX8_thrifty 34 = .ok (.ifCond .lt 16, 3) := by decide +kernel
theorem dX8_thrifty_37 : decode cX8_thrifty 37 = .ok (.aload_n 0, 1) := by decide +kernel
theorem dX8_thrifty_38 : decode cX8_thrifty 38 = .ok (.iload_n 3, 1) := by decide +kernel
theorem dX8_thrifty_39 : decode cX8_thrifty 39 = .ok (.invokevirtual 99, 3) := by decide +kernel
theorem dX8_thrifty_42 : decode cX8_thrifty 42 = .ok (.aload_n 0, 1) := by decide +kernel
theorem dX8_thrifty_43 : decode cX8_thrifty 43 = .ok (.iload_n 2, 1) := by decide +kernel
theorem dX8_thrifty_44 : decode cX8_thrifty 44 = .ok (.invokevirtual 99, 3) := by decide +kernel
theorem dX8_thrifty_47 : decode cX8_thrifty 47 = .ok (.if_icmp .ge 7, 3) := by decide +kernel
theorem dX8_thrifty_50 : decode cX8_thrifty 50 = .ok (.iconst 1, 1) := by decide +kernel
theorem dX8_thrifty_51 : decode cX8_thrifty 51 = .ok (.goto 4, 3) := by decide +kernel
theorem dX8_thrifty_54 : decode cX8_thrifty 54 = .ok (.iconst 0, 1) := by decide +kernel
theorem dX8_thrifty_55 : decode cX8_thrifty 55 = .ok (.istore 4, 2) := by decide +kernel
theorem dX8_thrifty_57 : decode cX8_thrifty 57 = .ok (.iload 4, 2) := by decide +kernel
theorem dX8_thrifty_59 : decode cX8_thrifty 59 = .ok (.ifCond .eq 7, 3) := by decide +kernel
theorem dX8_thrifty_62 : decode cX8_thrifty 62 = .ok (.iload_n 3, 1) := by decide +kernel
theorem dX8_thrifty_63 : decode cX8_thrifty 63 = .ok (.goto 4, 3) := by decide +kernel
theorem dX8_thrifty_66 : decode cX8_thrifty 66 = .ok (.iload_n 2, 1) := by decide +kernel
theorem dX8_thrifty_67 : decode cX8_thrifty 67 = .ok (.istore_n 2, 1) := by decide +kernel
theorem dX8_thrifty_68 : decode cX8_thrifty 68 = .ok (.iinc 3 1, 3) := by decide +kernel
theorem dX8_thrifty_71 : decode cX8_thrifty 71 = .ok (.goto (-54), 3) := by decide +kernel
theorem dX8_thrifty_74 : decode cX8_thrifty 74 = .ok (.iload_n 2, 1) := by decide +kernel
theorem dX8_thrifty_75 : decode cX8_thrifty 75 = .ok (.ifCond .ge 11, 3) := by decide +kernel
theorem dX8_thrifty_78 : decode cX8_thrifty 78 = .ok (.aload_n 0, 1) := by decide +kernel
theorem dX8_thrifty_79 : decode cX8_thrifty 79 = .ok (.iconst 3, 1) := by decide +kernel
theorem dX8_thrifty_80 : decode cX8_thrifty 80 = .ok (.invokevirtual 119, 3) := by decide +kernel
theorem dX8_thrifty_83 : decode cX8_thrifty 83 = .ok (.goto 4, 3) := by decide +kernel
theorem dX8_thrifty_86 : decode cX8_thrifty 86 = .ok (.iload_n 2, 1) := by decide +kernel
theorem dX8_thrifty_87 : decode cX8_thrifty 87 = .ok (.ireturn, 1) := by decide +kernel
theorem dX8_lowest_0 : decode cX8_lowest 0 = .ok (.iconst 0, 1) := by decide +kernel
theorem dX8_lowest_1 : decode cX8_lowest 1 = .ok (.istore_n 1, 1) := by decide +kernel
theorem dX8_lowest_2 : decode cX8_lowest 2 = .ok (.iload_n 0, 1) := by decide +kernel
theorem dX8_lowest_3 : decode cX8_lowest 3 = .ok (.iload_n 1, 1) := by decide +kernel
theorem dX8_lowest_4 : decode cX8_lowest 4 = .ok (.invokestatic 88, 3) := by decide +kernel
theorem dX8_lowest_7 : decode cX8_lowest 7 = .ok (.ifCond .ne 9, 3) := by decide +kernel
theorem dX8_lowest_10 : decode cX8_lowest 10 = .ok (.iinc 1 1, 3) := by decide +kernel
theorem dX8_lowest_13 : decode cX8_lowest 13 = .ok (.goto (-11), 3) := by decide +kernel
theorem dX8_lowest_16 : decode cX8_lowest 16 = .ok (.iload_n 1, 1) := by decide +kernel
theorem dX8_lowest_17 : decode cX8_lowest 17 = .ok (.ireturn, 1) := by decide +kernel
theorem dX8_dealt_0 : decode cX8_dealt 0 = .ok (.iload_n 1, 1) := by decide +kernel
theorem dX8_dealt_1 : decode cX8_dealt 1 = .ok (.invokestatic 164, 3) := by decide +kernel
theorem dX8_dealt_4 : decode cX8_dealt 4 = .ok (.istore_n 3, 1) := by decide +kernel
theorem dX8_dealt_5 : decode cX8_dealt 5 = .ok (.iload_n 1, 1) := by decide +kernel
theorem dX8_dealt_6 : decode cX8_dealt 6 = .ok (.iload_n 1, 1) := by decide +kernel
theorem dX8_dealt_7 : decode cX8_dealt 7 = .ok (.iconst 1, 1) := by decide +kernel
theorem dX8_dealt_8 : decode cX8_dealt 8 = .ok (.isub, 1) := by decide +kernel
theorem dX8_dealt_9 : decode cX8_dealt 9 = .ok (.iand, 1) := by decide +kernel
theorem dX8_dealt_10 : decode cX8_dealt 10 = .ok (.istore 4, 2) := by decide +kernel
theorem dX8_dealt_12 : decode cX8_dealt 12 = .ok (.aload_n 0, 1) := by decide +kernel
theorem dX8_dealt_13 : decode cX8_dealt 13 = .ok (.iload_n 3, 1) := by decide +kernel
theorem dX8_dealt_14 : decode cX8_dealt 14 = .ok (.invokevirtual 134, 3) := by decide +kernel
theorem dX8_dealt_17 : decode cX8_dealt 17 = .ok (.ifCond .eq 17, 3) := by decide +kernel
theorem dX8_dealt_20 : decode cX8_dealt 20 = .ok (.aload_n 0, 1) := by decide +kernel
theorem dX8_dealt_21 : decode cX8_dealt 21 = .ok (.getfield 22, 3) := by decide +kernel
theorem dX8_dealt_24 : decode cX8_dealt 24 = .ok (.sipush 256, 3) := by decide +kernel
theorem dX8_dealt_27 : decode cX8_dealt 27 = .ok (.iload 4, 2) := by decide +kernel
theorem dX8_dealt_29 : decode cX8_dealt 29 = .ok (.imul, 1) := by decide +kernel
theorem dX8_dealt_30 : decode cX8_dealt 30 = .ok (.iload_n 2, 1) := by decide +kernel
theorem dX8_dealt_31 : decode cX8_dealt 31 = .ok (.iadd, 1) := by decide +kernel
theorem dX8_dealt_32 : decode cX8_dealt 32 = .ok (.baload, 1) := by decide +kernel
theorem dX8_dealt_33 : decode cX8_dealt 33 = .ok (.ireturn, 1) := by decide +kernel
theorem dX8_dealt_34 : decode cX8_dealt 34 = .ok (.iconst 0, 1) := by decide +kernel
theorem dX8_dealt_35 : decode cX8_dealt 35 = .ok (.istore 5, 2) := by decide +kernel
theorem dX8_dealt_37 : decode cX8_dealt 37 = .ok (.iload_n 2, 1) := by decide +kernel
theorem dX8_dealt_38 : decode cX8_dealt 38 = .ok (.istore 6, 2) := by decide +kernel
theorem dX8_dealt_40 : decode cX8_dealt 40 = .ok (.iload 6, 2) := by decide +kernel
theorem dX8_dealt_42 : decode cX8_dealt 42 = .ok (.ifCond .eq 78, 3) := by decide +kernel
theorem dX8_dealt_45 : decode cX8_dealt 45 = .ok (.iload 5, 2) := by decide +kernel
theorem dX8_dealt_47 : decode cX8_dealt 47 = .ok (.ifCond .ne 73, 3) := by decide +kernel
theorem dX8_dealt_50 : decode cX8_dealt 50 = .ok (.aload_n 0, 1) := by decide +kernel
theorem dX8_dealt_51 : decode cX8_dealt 51 = .ok (.iload_n 3, 1) := by decide +kernel
theorem dX8_dealt_52 : decode cX8_dealt 52 = .ok (.invokevirtual 137, 3) := by decide +kernel
theorem dX8_dealt_55 : decode cX8_dealt 55 = .ok (.ifCond .ne 65, 3) := by decide +kernel
theorem dX8_dealt_58 : decode cX8_dealt 58 = .ok (.aload_n 0, 1) := by decide +kernel
theorem dX8_dealt_59 : decode cX8_dealt 59 = .ok (.iload_n 3, 1) := by decide +kernel
theorem dX8_dealt_60 : decode cX8_dealt 60 = .ok (.iconst 3, 1) := by decide +kernel
theorem dX8_dealt_61 : decode cX8_dealt 61 = .ok (.invokevirtual 131, 3) := by decide +kernel
theorem dX8_dealt_64 : decode cX8_dealt 64 = .ok (.aload_n 0, 1) := by decide +kernel
theorem dX8_dealt_65 : decode cX8_dealt 65 = .ok (.getfield 26, 3) := by decide +kernel
theorem dX8_dealt_68 : decode cX8_dealt 68 = .ok (.iload 6, 2) := by decide +kernel
theorem dX8_dealt_70 : decode cX8_dealt 70 = .ok (.iaload, 1) := by decide +kernel
theorem dX8_dealt_71 : decode cX8_dealt 71 = .ok (.iadd, 1) := by decide +kernel
theorem dX8_dealt_72 : decode cX8_dealt 72 = .ok (.aload_n 0, 1) := by decide +kernel
theorem dX8_dealt_73 : decode cX8_dealt 73 = .ok (.iload_n 3, 1) := by decide +kernel
theorem dX8_dealt_74 : decode cX8_dealt 74 = .ok (.iconst 0, 1) := by decide +kernel
theorem dX8_dealt_75 : decode cX8_dealt 75 = .ok (.invokevirtual 131, 3) := by decide +kernel
theorem dX8_dealt_78 : decode cX8_dealt 78 = .ok (.if_icmp .lt 28, 3) := by decide +kernel
theorem dX8_dealt_81 : decode cX8_dealt 81 = .ok (.aload_n 0, 1) := by decide +kernel
theorem dX8_dealt_82 : decode cX8_dealt 82 = .ok (.getfield 22, 3) := by decide +kernel
theorem dX8_dealt_85 : decode cX8_dealt 85 = .ok (.sipush 256, 3) := by decide +kernel
theorem dX8_dealt_88 : decode cX8_dealt 88 = .ok (.iload 4, 2) := by decide +kernel
theorem dX8_dealt_90 : decode cX8_dealt 90 = .ok (.imul, 1) := by decide +kernel
theorem dX8_dealt_91 : decode cX8_dealt 91 = .ok (.iload_n 2, 1) := by decide +kernel
theorem dX8_dealt_92 : decode cX8_dealt 92 = .ok (.iload 6, 2) := by decide +kernel
theorem dX8_dealt_94 : decode cX8_dealt 94 = .ok (.iconst (-1), 1) := by decide +kernel
theorem dX8_dealt_95 : decode cX8_dealt 95 = .ok (.ixor, 1) := by decide +kernel
theorem dX8_dealt_96 : decode cX8_dealt 96 = .ok (.iand, 1) := by decide +kernel
theorem dX8_dealt_97 : decode cX8_dealt 97 = .ok (.iadd, 1) := by decide +kernel
theorem dX8_dealt_98 : decode cX8_dealt 98 = .ok (.baload, 1) := by decide +kernel
theorem dX8_dealt_99 : decode cX8_dealt 99 = .ok (.ifCond .eq 7, 3) := by decide +kernel
theorem dX8_dealt_102 : decode cX8_dealt 102 = .ok (.iconst 1, 1) := by decide +kernel
theorem dX8_dealt_103 : decode cX8_dealt 103 = .ok (.goto 4, 3) := by decide +kernel
theorem dX8_dealt_106 : decode cX8_dealt 106 = .ok (.iconst 0, 1) := by decide +kernel
theorem dX8_dealt_107 : decode cX8_dealt 107 = .ok (.istore 5, 2) := by decide +kernel
theorem dX8_dealt_109 : decode cX8_dealt 109 = .ok (.iload 6, 2) := by decide +kernel
theorem dX8_dealt_111 : decode cX8_dealt 111 = .ok (.iconst 1, 1) := by decide +kernel
theorem dX8_dealt_112 : decode cX8_dealt 112 = .ok (.isub, 1) := by decide +kernel
theorem dX8_dealt_113 : decode cX8_dealt 113 = .ok (.iload_n 2, 1) := by decide +kernel
theorem dX8_dealt_114 : decode cX8_dealt 114 = .ok (.iand, 1) := by decide +kernel
theorem dX8_dealt_115 : decode cX8_dealt 115 = .ok (.istore 6, 2) := by decide +kernel
theorem dX8_dealt_117 : decode cX8_dealt 117 = .ok (.goto (-77), 3) := by decide +kernel
theorem dX8_dealt_120 : decode cX8_dealt 120 = .ok (.iload 5, 2) := by decide +kernel
theorem dX8_dealt_122 : decode cX8_dealt 122 = .ok (.ireturn, 1) := by decide +kernel
theorem dX8_worthOf_0 : decode cX8_worthOf 0 = .ok (.iconst 0, 1) := by decide +kernel
theorem dX8_worthOf_1 : decode cX8_worthOf 1 = .ok (.istore_n 2, 1) := by decide +kernel
theorem dX8_worthOf_2 : decode cX8_worthOf 2 = .ok (.iconst 0, 1) := by decide +kernel
theorem dX8_worthOf_3 : decode cX8_worthOf 3 = .ok (.istore_n 3, 1) := by decide +kernel
theorem dX8_worthOf_4 : decode cX8_worthOf 4 = .ok (.iload_n 3, 1) := by decide +kernel
theorem dX8_worthOf_5 : decode cX8_worthOf 5 = .ok (.bipush 6, 2) := by decide +kernel
theorem dX8_worthOf_7 : decode cX8_worthOf 7 = .ok (.if_icmp .ge 30, 3) := by decide +kernel
theorem dX8_worthOf_10 : decode cX8_worthOf 10 = .ok (.iload_n 2, 1) := by decide +kernel
theorem dX8_worthOf_11 : decode cX8_worthOf 11 = .ok (.iload_n 1, 1) := by decide +kernel
theorem dX8_worthOf_12 : decode cX8_worthOf 12 = .ok (.iload_n 3, 1) := by decide +kernel
theorem dX8_worthOf_13 : decode cX8_worthOf 13 = .ok (.invokestatic 88, 3) := by decide +kernel
theorem dX8_worthOf_16 : decode cX8_worthOf 16 = .ok (.ifCond .eq 12, 3) := by decide +kernel
theorem dX8_worthOf_19 : decode cX8_worthOf 19 = .ok (.aload_n 0, 1) := by decide +kernel
theorem dX8_worthOf_20 : decode cX8_worthOf 20 = .ok (.iload_n 3, 1) := by decide +kernel
theorem dX8_worthOf_21 : decode cX8_worthOf 21 = .ok (.iconst 2, 1) := by decide +kernel
theorem dX8_worthOf_22 : decode cX8_worthOf 22 = .ok (.invokevirtual 131, 3) := by decide +kernel
theorem dX8_worthOf_25 : decode cX8_worthOf 25 = .ok (.goto 4, 3) := by decide +kernel
theorem dX8_worthOf_28 : decode cX8_worthOf 28 = .ok (.iconst 0, 1) := by decide +kernel
theorem dX8_worthOf_29 : decode cX8_worthOf 29 = .ok (.iadd, 1) := by decide +kernel
theorem dX8_worthOf_30 : decode cX8_worthOf 30 = .ok (.istore_n 2, 1) := by decide +kernel
theorem dX8_worthOf_31 : decode cX8_worthOf 31 = .ok (.iinc 3 1, 3) := by decide +kernel
theorem dX8_worthOf_34 : decode cX8_worthOf 34 = .ok (.goto (-30), 3) := by decide +kernel
theorem dX8_worthOf_37 : decode cX8_worthOf 37 = .ok (.iload_n 2, 1) := by decide +kernel
theorem dX8_worthOf_38 : decode cX8_worthOf 38 = .ok (.ireturn, 1) := by decide +kernel
theorem dX8_bestSet_0 : decode cX8_bestSet 0 = .ok (.aload_n 0, 1) := by decide +kernel
theorem dX8_bestSet_1 : decode cX8_bestSet 1 = .ok (.invokevirtual 95, 3) := by decide +kernel
theorem dX8_bestSet_4 : decode cX8_bestSet 4 = .ok (.istore_n 1, 1) := by decide +kernel
theorem dX8_bestSet_5 : decode cX8_bestSet 5 = .ok (.iconst 0, 1) := by decide +kernel
theorem dX8_bestSet_6 : decode cX8_bestSet 6 = .ok (.istore_n 2, 1) := by decide +kernel
theorem dX8_bestSet_7 : decode cX8_bestSet 7 = .ok (.iload_n 2, 1) := by decide +kernel
theorem dX8_bestSet_8 : decode cX8_bestSet 8 = .ok (.sipush 256, 3) := by decide +kernel
theorem dX8_bestSet_11 : decode cX8_bestSet 11 = .ok (.if_icmp .ge 29, 3) := by decide +kernel
theorem dX8_bestSet_14 : decode cX8_bestSet 14 = .ok (.aload_n 0, 1) := by decide +kernel
theorem dX8_bestSet_15 : decode cX8_bestSet 15 = .ok (.getfield 26, 3) := by decide +kernel
theorem dX8_bestSet_18 : decode cX8_bestSet 18 = .ok (.iload_n 2, 1) := by decide +kernel
theorem dX8_bestSet_19 : decode cX8_bestSet 19 = .ok (.aload_n 0, 1) := by decide +kernel
theorem dX8_bestSet_20 : decode cX8_bestSet 20 = .ok (.iload_n 2, 1) := by decide +kernel
theorem dX8_bestSet_21 : decode cX8_bestSet 21 = .ok (.iload_n 1, 1) := by decide +kernel
theorem dX8_bestSet_22 : decode cX8_bestSet 22 = .ok (.iand, 1) := by decide +kernel
theorem dX8_bestSet_23 : decode cX8_bestSet 23 = .ok (.invokevirtual 99, 3) := by decide +kernel
theorem dX8_bestSet_26 : decode cX8_bestSet 26 = .ok (.iastore, 1) := by decide +kernel
theorem dX8_bestSet_27 : decode cX8_bestSet 27 = .ok (.aload_n 0, 1) := by decide +kernel
theorem dX8_bestSet_28 : decode cX8_bestSet 28 = .ok (.getfield 22, 3) := by decide +kernel
theorem dX8_bestSet_31 : decode cX8_bestSet 31 = .ok (.iload_n 2, 1) := by decide +kernel
theorem dX8_bestSet_32 : decode cX8_bestSet 32 = .ok (.iconst 1, 1) := by decide +kernel
theorem dX8_bestSet_33 : decode cX8_bestSet 33 = .ok (.bastore, 1) := by decide +kernel
theorem dX8_bestSet_34 : decode cX8_bestSet 34 = .ok (.iinc 2 1, 3) := by decide +kernel
theorem dX8_bestSet_37 : decode cX8_bestSet 37 = .ok (.goto (-30), 3) := by decide +kernel
theorem dX8_bestSet_40 : decode cX8_bestSet 40 = .ok (.iconst 0, 1) := by decide +kernel
theorem dX8_bestSet_41 : decode cX8_bestSet 41 = .ok (.istore_n 2, 1) := by decide +kernel
theorem dX8_bestSet_42 : decode cX8_bestSet 42 = .ok (.iconst 1, 1) := by decide +kernel
theorem dX8_bestSet_43 : decode cX8_bestSet 43 = .ok (.istore_n 3, 1) := by decide +kernel
theorem dX8_bestSet_44 : decode cX8_bestSet 44 = .ok (.iload_n 3, 1) := by decide +kernel
theorem dX8_bestSet_45 : decode cX8_bestSet 45 = .ok (.bipush 64, 2) := by decide +kernel
theorem dX8_bestSet_47 : decode cX8_bestSet 47 = .ok (.if_icmp .ge 97, 3) := by decide +kernel
theorem dX8_bestSet_50 : decode cX8_bestSet 50 = .ok (.iconst 0, 1) := by decide +kernel
theorem dX8_bestSet_51 : decode cX8_bestSet 51 = .ok (.istore 4, 2) := by decide +kernel
theorem dX8_bestSet_53 : decode cX8_bestSet 53 = .ok (.iload 4, 2) := by decide +kernel
theorem dX8_bestSet_55 : decode cX8_bestSet 55 = .ok (.sipush 256, 3) := by decide +kernel
theorem dX8_bestSet_58 : decode cX8_bestSet 58 = .ok (.if_icmp .ge 46, 3) := by decide +kernel
theorem dX8_bestSet_61 : decode cX8_bestSet 61 = .ok (.aload_n 0, 1) := by decide +kernel
theorem dX8_bestSet_62 : decode cX8_bestSet 62 = .ok (.getfield 22, 3) := by decide +kernel
theorem dX8_bestSet_65 : decode cX8_bestSet 65 = .ok (.sipush 256, 3) := by decide +kernel
theorem dX8_bestSet_68 : decode cX8_bestSet 68 = .ok (.iload_n 3, 1) := by decide +kernel
theorem dX8_bestSet_69 : decode cX8_bestSet 69 = .ok (.imul, 1) := by decide +kernel
theorem dX8_bestSet_70 : decode cX8_bestSet 70 = .ok (.iload 4, 2) := by decide +kernel
theorem dX8_bestSet_72 : decode cX8_bestSet 72 = .ok (.iadd, 1) := by decide +kernel
theorem dX8_bestSet_73 : decode cX8_bestSet 73 = .ok (.iload 4, 2) := by decide +kernel
theorem dX8_bestSet_75 : decode cX8_bestSet 75 = .ok (.iload_n 1, 1) := by decide +kernel
theorem dX8_bestSet_76 : decode cX8_bestSet 76 = .ok (.iconst (-1), 1) := by decide +kernel
theorem dX8_bestSet_77 : decode cX8_bestSet 77 = .ok (.ixor, 1) := by decide +kernel
theorem dX8_bestSet_78 : decode cX8_bestSet 78 = .ok (.iand, 1) := by decide +kernel
theorem dX8_bestSet_79 : decode cX8_bestSet 79 = .ok (.ifCond .ne 17, 3) := by decide +kernel
theorem dX8_bestSet_82 : decode cX8_bestSet 82 = .ok (.aload_n 0, 1) := by decide +kernel
theorem dX8_bestSet_83 : decode cX8_bestSet 83 = .ok (.iload_n 3, 1) := by decide +kernel
theorem dX8_bestSet_84 : decode cX8_bestSet 84 = .ok (.iload 4, 2) := by decide +kernel
theorem dX8_bestSet_86 : decode cX8_bestSet 86 = .ok (.invokevirtual 167, 3) := by decide +kernel
theorem dX8_bestSet_89 : decode cX8_bestSet 89 = .ok (.ifCond .eq 7, 3) := by decide +kernel
theorem dX8_bestSet_92 : decode cX8_bestSet 92 = .ok (.iconst 1, 1) := by decide +kernel
theorem dX8_bestSet_93 : decode cX8_bestSet 93 = .ok (.goto 4, 3) := by decide +kernel
theorem dX8_bestSet_96 : decode cX8_bestSet 96 = .ok (.iconst 0, 1) := by decide +kernel
theorem dX8_bestSet_97 : decode cX8_bestSet 97 = .ok (.bastore, 1) := by decide +kernel
theorem dX8_bestSet_98 : decode cX8_bestSet 98 = .ok (.iinc 4 1, 3) := by decide +kernel
theorem dX8_bestSet_101 : decode cX8_bestSet 101 = .ok (.goto (-48), 3) := by decide +kernel
theorem dX8_bestSet_104 : decode cX8_bestSet 104 = .ok (.aload_n 0, 1) := by decide +kernel
theorem dX8_bestSet_105 : decode cX8_bestSet 105 = .ok (.getfield 22, 3) := by decide +kernel
theorem dX8_bestSet_108 : decode cX8_bestSet 108 = .ok (.sipush 256, 3) := by decide +kernel
theorem dX8_bestSet_111 : decode cX8_bestSet 111 = .ok (.iload_n 3, 1) := by decide +kernel
theorem dX8_bestSet_112 : decode cX8_bestSet 112 = .ok (.imul, 1) := by decide +kernel
theorem dX8_bestSet_113 : decode cX8_bestSet 113 = .ok (.iload_n 1, 1) := by decide +kernel
theorem dX8_bestSet_114 : decode cX8_bestSet 114 = .ok (.iadd, 1) := by decide +kernel
theorem dX8_bestSet_115 : decode cX8_bestSet 115 = .ok (.baload, 1) := by decide +kernel
theorem dX8_bestSet_116 : decode cX8_bestSet 116 = .ok (.ifCond .eq 20, 3) := by decide +kernel
theorem dX8_bestSet_119 : decode cX8_bestSet 119 = .ok (.aload_n 0, 1) := by decide +kernel
theorem dX8_bestSet_120 : decode cX8_bestSet 120 = .ok (.iload_n 3, 1) := by decide +kernel
theorem dX8_bestSet_121 : decode cX8_bestSet 121 = .ok (.invokevirtual 170, 3) := by decide +kernel
theorem dX8_bestSet_124 : decode cX8_bestSet 124 = .ok (.aload_n 0, 1) := by decide +kernel
theorem dX8_bestSet_125 : decode cX8_bestSet 125 = .ok (.iload_n 2, 1) := by decide +kernel
theorem dX8_bestSet_126 : decode cX8_bestSet 126 = .ok (.invokevirtual 170, 3) := by decide +kernel
theorem dX8_bestSet_129 : decode cX8_bestSet 129 = .ok (.if_icmp .le 7, 3) := by decide +kernel
theorem dX8_bestSet_132 : decode cX8_bestSet 132 = .ok (.iload_n 3, 1) := by decide +kernel
theorem dX8_bestSet_133 : decode cX8_bestSet 133 = .ok (.goto 4, 3) := by decide +kernel
theorem dX8_bestSet_136 : decode cX8_bestSet 136 = .ok (.iload_n 2, 1) := by decide +kernel
theorem dX8_bestSet_137 : decode cX8_bestSet 137 = .ok (.istore_n 2, 1) := by decide +kernel
theorem dX8_bestSet_138 : decode cX8_bestSet 138 = .ok (.iinc 3 1, 3) := by decide +kernel
theorem dX8_bestSet_141 : decode cX8_bestSet 141 = .ok (.goto (-97), 3) := by decide +kernel
theorem dX8_bestSet_144 : decode cX8_bestSet 144 = .ok (.iload_n 2, 1) := by decide +kernel
theorem dX8_bestSet_145 : decode cX8_bestSet 145 = .ok (.ireturn, 1) := by decide +kernel
theorem dX8_best_0 : decode cX8_best 0 = .ok (.aload_n 0, 1) := by decide +kernel
theorem dX8_best_1 : decode cX8_best 1 = .ok (.aload_n 0, 1) := by decide +kernel
theorem dX8_best_2 : decode cX8_best 2 = .ok (.invokevirtual 173, 3) := by decide +kernel
theorem dX8_best_5 : decode cX8_best 5 = .ok (.invokevirtual 170, 3) := by decide +kernel
theorem dX8_best_8 : decode cX8_best 8 = .ok (.ireturn, 1) := by decide +kernel
theorem dX8_bestWorks_0 : decode cX8_bestWorks 0 = .ok (.aload_n 0, 1) := by decide +kernel
theorem dX8_bestWorks_1 : decode cX8_bestWorks 1 = .ok (.invokevirtual 173, 3) := by decide +kernel
theorem dX8_bestWorks_4 : decode cX8_bestWorks 4 = .ok (.ireturn, 1) := by decide +kernel
theorem dX8_soonest_0 : decode cX8_soonest 0 = .ok (.iload_n 1, 1) := by decide +kernel
theorem dX8_soonest_1 : decode cX8_soonest 1 = .ok (.invokestatic 128, 3) := by decide +kernel
theorem dX8_soonest_4 : decode cX8_soonest 4 = .ok (.ifCond .ne 9, 3) := by decide +kernel
theorem dX8_soonest_7 : decode cX8_soonest 7 = .ok (.aload_n 0, 1) := by decide +kernel
theorem dX8_soonest_8 : decode cX8_soonest 8 = .ok (.iconst 0, 1) := by decide +kernel
theorem dX8_soonest_9 : decode cX8_soonest 9 = .ok (.invokevirtual 119, 3) := by decide +kernel
theorem dX8_soonest_12 : decode cX8_soonest 12 = .ok (.ireturn, 1) := by decide +kernel
theorem dX8_soonest_13 : decode cX8_soonest 13 = .ok (.aload_n 0, 1) := by decide +kernel
theorem dX8_soonest_14 : decode cX8_soonest 14 = .ok (.invokevirtual 152, 3) := by decide +kernel
theorem dX8_soonest_17 : decode cX8_soonest 17 = .ok (.iconst 0, 1) := by decide +kernel
theorem dX8_soonest_18 : decode cX8_soonest 18 = .ok (.istore_n 2, 1) := by decide +kernel
theorem dX8_soonest_19 : decode cX8_soonest 19 = .ok (.iconst 0, 1) := by decide +kernel
theorem dX8_soonest_20 : decode cX8_soonest 20 = .ok (.istore_n 3, 1) := by decide +kernel
theorem dX8_soonest_21 : decode cX8_soonest 21 = .ok (.iconst 0, 1) := by decide +kernel
theorem dX8_soonest_22 : decode cX8_soonest 22 = .ok (.istore 4, 2) := by decide +kernel
theorem dX8_soonest_24 : decode cX8_soonest 24 = .ok (.iload_n 2, 1) := by decide +kernel
theorem dX8_soonest_25 : decode cX8_soonest 25 = .ok (.bipush 60, 2) := by decide +kernel
theorem dX8_soonest_27 : decode cX8_soonest 27 = .ok (.if_icmp .gt 61, 3) := by decide +kernel
theorem dX8_soonest_30 : decode cX8_soonest 30 = .ok (.iload 4, 2) := by decide +kernel
theorem dX8_soonest_32 : decode cX8_soonest 32 = .ok (.ifCond .ne 56, 3) := by decide +kernel
theorem dX8_soonest_35 : decode cX8_soonest 35 = .ok (.aload_n 0, 1) := by decide +kernel
theorem dX8_soonest_36 : decode cX8_soonest 36 = .ok (.iload_n 1, 1) := by decide +kernel
theorem dX8_soonest_37 : decode cX8_soonest 37 = .ok (.invokevirtual 137, 3) := by decide +kernel
theorem dX8_soonest_40 : decode cX8_soonest 40 = .ok (.ifCond .ne 27, 3) := by decide +kernel
theorem dX8_soonest_43 : decode cX8_soonest 43 = .ok (.aload_n 0, 1) := by decide +kernel
theorem dX8_soonest_44 : decode cX8_soonest 44 = .ok (.iload_n 1, 1) := by decide +kernel
theorem dX8_soonest_45 : decode cX8_soonest 45 = .ok (.iconst 3, 1) := by decide +kernel
theorem dX8_soonest_46 : decode cX8_soonest 46 = .ok (.invokevirtual 131, 3) := by decide +kernel
theorem dX8_soonest_49 : decode cX8_soonest 49 = .ok (.aload_n 0, 1) := by decide +kernel
theorem dX8_soonest_50 : decode cX8_soonest 50 = .ok (.invokevirtual 146, 3) := by decide +kernel
theorem dX8_soonest_53 : decode cX8_soonest 53 = .ok (.iadd, 1) := by decide +kernel
theorem dX8_soonest_54 : decode cX8_soonest 54 = .ok (.aload_n 0, 1) := by decide +kernel
theorem dX8_soonest_55 : decode cX8_soonest 55 = .ok (.iload_n 1, 1) := by decide +kernel
theorem dX8_soonest_56 : decode cX8_soonest 56 = .ok (.iconst 0, 1) := by decide +kernel
theorem dX8_soonest_57 : decode cX8_soonest 57 = .ok (.invokevirtual 131, 3) := by decide +kernel
theorem dX8_soonest_60 : decode cX8_soonest 60 = .ok (.if_icmp .lt 7, 3) := by decide +kernel
theorem dX8_soonest_63 : decode cX8_soonest 63 = .ok (.iconst 1, 1) := by decide +kernel
theorem dX8_soonest_64 : decode cX8_soonest 64 = .ok (.goto 4, 3) := by decide +kernel
theorem dX8_soonest_67 : decode cX8_soonest 67 = .ok (.iconst 0, 1) := by decide +kernel
theorem dX8_soonest_68 : decode cX8_soonest 68 = .ok (.istore 4, 2) := by decide +kernel
theorem dX8_soonest_70 : decode cX8_soonest 70 = .ok (.iload 4, 2) := by decide +kernel
theorem dX8_soonest_72 : decode cX8_soonest 72 = .ok (.ifCond .ne (-48), 3) := by decide +kernel
theorem dX8_soonest_75 : decode cX8_soonest 75 = .ok (.iload_n 3, 1) := by decide +kernel
theorem dX8_soonest_76 : decode cX8_soonest 76 = .ok (.aload_n 0, 1) := by decide +kernel
theorem dX8_soonest_77 : decode cX8_soonest 77 = .ok (.invokevirtual 140, 3) := by decide +kernel
theorem dX8_soonest_80 : decode cX8_soonest 80 = .ok (.iadd, 1) := by decide +kernel
theorem dX8_soonest_81 : decode cX8_soonest 81 = .ok (.istore_n 3, 1) := by decide +kernel
theorem dX8_soonest_82 : decode cX8_soonest 82 = .ok (.iinc 2 1, 3) := by decide +kernel
theorem dX8_soonest_85 : decode cX8_soonest 85 = .ok (.goto (-61), 3) := by decide +kernel
theorem dX8_soonest_88 : decode cX8_soonest 88 = .ok (.aload_n 0, 1) := by decide +kernel
theorem dX8_soonest_89 : decode cX8_soonest 89 = .ok (.invokevirtual 155, 3) := by decide +kernel
theorem dX8_soonest_92 : decode cX8_soonest 92 = .ok (.iload 4, 2) := by decide +kernel
theorem dX8_soonest_94 : decode cX8_soonest 94 = .ok (.ifCond .eq 7, 3) := by decide +kernel
theorem dX8_soonest_97 : decode cX8_soonest 97 = .ok (.iload_n 2, 1) := by decide +kernel
theorem dX8_soonest_98 : decode cX8_soonest 98 = .ok (.goto 8, 3) := by decide +kernel
theorem dX8_soonest_101 : decode cX8_soonest 101 = .ok (.aload_n 0, 1) := by decide +kernel
theorem dX8_soonest_102 : decode cX8_soonest 102 = .ok (.iconst 3, 1) := by decide +kernel
theorem dX8_soonest_103 : decode cX8_soonest 103 = .ok (.invokevirtual 119, 3) := by decide +kernel
theorem dX8_soonest_106 : decode cX8_soonest 106 = .ok (.ireturn, 1) := by decide +kernel
theorem dX8_inNest_0 : decode cX8_inNest 0 = .ok (.iconst 0, 1) := by decide +kernel
theorem dX8_inNest_1 : decode cX8_inNest 1 = .ok (.istore_n 2, 1) := by decide +kernel
theorem dX8_inNest_2 : decode cX8_inNest 2 = .ok (.iconst 0, 1) := by decide +kernel
theorem dX8_inNest_3 : decode cX8_inNest 3 = .ok (.istore_n 3, 1) := by decide +kernel
theorem dX8_inNest_4 : decode cX8_inNest 4 = .ok (.iload_n 3, 1) := by decide +kernel
theorem dX8_inNest_5 : decode cX8_inNest 5 = .ok (.bipush 8, 2) := by decide +kernel
theorem dX8_inNest_7 : decode cX8_inNest 7 = .ok (.if_icmp .ge 37, 3) := by decide +kernel
theorem dX8_inNest_10 : decode cX8_inNest 10 = .ok (.iload_n 2, 1) := by decide +kernel
theorem dX8_inNest_11 : decode cX8_inNest 11 = .ok (.aload_n 0, 1) := by decide +kernel
theorem dX8_inNest_12 : decode cX8_inNest 12 = .ok (.iload_n 3, 1) := by decide +kernel
theorem dX8_inNest_13 : decode cX8_inNest 13 = .ok (.invokevirtual 71, 3) := by decide +kernel
theorem dX8_inNest_16 : decode cX8_inNest 16 = .ok (.ifCond .eq 19, 3) := by decide +kernel
theorem dX8_inNest_19 : decode cX8_inNest 19 = .ok (.aload_n 0, 1) := by decide +kernel
theorem dX8_inNest_20 : decode cX8_inNest 20 = .ok (.iload_n 3, 1) := by decide +kernel
theorem dX8_inNest_21 : decode cX8_inNest 21 = .ok (.iconst 3, 1) := by decide +kernel
theorem dX8_inNest_22 : decode cX8_inNest 22 = .ok (.invokevirtual 63, 3) := by decide +kernel
theorem dX8_inNest_25 : decode cX8_inNest 25 = .ok (.iload_n 1, 1) := by decide +kernel
theorem dX8_inNest_26 : decode cX8_inNest 26 = .ok (.if_icmp .ne 9, 3) := by decide +kernel
theorem dX8_inNest_29 : decode cX8_inNest 29 = .ok (.iconst 1, 1) := by decide +kernel
theorem dX8_inNest_30 : decode cX8_inNest 30 = .ok (.iload_n 3, 1) := by decide +kernel
theorem dX8_inNest_31 : decode cX8_inNest 31 = .ok (.ishl, 1) := by decide +kernel
theorem dX8_inNest_32 : decode cX8_inNest 32 = .ok (.goto 4, 3) := by decide +kernel
theorem dX8_inNest_35 : decode cX8_inNest 35 = .ok (.iconst 0, 1) := by decide +kernel
theorem dX8_inNest_36 : decode cX8_inNest 36 = .ok (.ior, 1) := by decide +kernel
theorem dX8_inNest_37 : decode cX8_inNest 37 = .ok (.istore_n 2, 1) := by decide +kernel
theorem dX8_inNest_38 : decode cX8_inNest 38 = .ok (.iinc 3 1, 3) := by decide +kernel
theorem dX8_inNest_41 : decode cX8_inNest 41 = .ok (.goto (-37), 3) := by decide +kernel
theorem dX8_inNest_44 : decode cX8_inNest 44 = .ok (.iload_n 2, 1) := by decide +kernel
theorem dX8_inNest_45 : decode cX8_inNest 45 = .ok (.ireturn, 1) := by decide +kernel
theorem dX8_nest_0 : decode cX8_nest 0 = .ok (.iload_n 1, 1) := by decide +kernel
theorem dX8_nest_1 : decode cX8_nest 1 = .ok (.iconst 0, 1) := by decide +kernel
theorem dX8_nest_2 : decode cX8_nest 2 = .ok (.iconst 3, 1) := by decide +kernel
theorem dX8_nest_3 : decode cX8_nest 3 = .ok (.invokestatic 59, 3) := by decide +kernel
theorem dX8_nest_6 : decode cX8_nest 6 = .ok (.ifCond .eq 15, 3) := by decide +kernel
theorem dX8_nest_9 : decode cX8_nest 9 = .ok (.aload_n 0, 1) := by decide +kernel
theorem dX8_nest_10 : decode cX8_nest 10 = .ok (.aload_n 0, 1) := by decide +kernel
theorem dX8_nest_11 : decode cX8_nest 11 = .ok (.iload_n 1, 1) := by decide +kernel
theorem dX8_nest_12 : decode cX8_nest 12 = .ok (.invokevirtual 176, 3) := by decide +kernel
theorem dX8_nest_15 : decode cX8_nest 15 = .ok (.invokevirtual 99, 3) := by decide +kernel
theorem dX8_nest_18 : decode cX8_nest 18 = .ok (.goto 8, 3) := by decide +kernel
theorem dX8_nest_21 : decode cX8_nest 21 = .ok (.aload_n 0, 1) := by decide +kernel
theorem dX8_nest_22 : decode cX8_nest 22 = .ok (.iconst 0, 1) := by decide +kernel
theorem dX8_nest_23 : decode cX8_nest 23 = .ok (.invokevirtual 119, 3) := by decide +kernel
theorem dX8_nest_26 : decode cX8_nest 26 = .ok (.ireturn, 1) := by decide +kernel
theorem dX8_guard_0 : decode cX8_guard 0 = .ok (.iconst 0, 1) := by decide +kernel
theorem dX8_guard_1 : decode cX8_guard 1 = .ok (.istore_n 1, 1) := by decide +kernel
theorem dX8_guard_2 : decode cX8_guard 2 = .ok (.iconst 1, 1) := by decide +kernel
theorem dX8_guard_3 : decode cX8_guard 3 = .ok (.istore_n 2, 1) := by decide +kernel
theorem dX8_guard_4 : decode cX8_guard 4 = .ok (.iload_n 2, 1) := by decide +kernel
theorem dX8_guard_5 : decode cX8_guard 5 = .ok (.iconst 4, 1) := by decide +kernel
theorem dX8_guard_6 : decode cX8_guard 6 = .ok (.if_icmp .ge 36, 3) := by decide +kernel
theorem dX8_guard_9 : decode cX8_guard 9 = .ok (.aload_n 0, 1) := by decide +kernel
theorem dX8_guard_10 : decode cX8_guard 10 = .ok (.aload_n 0, 1) := by decide +kernel
theorem dX8_guard_11 : decode cX8_guard 11 = .ok (.iload_n 2, 1) := by decide +kernel
theorem dX8_guard_12 : decode cX8_guard 12 = .ok (.invokevirtual 176, 3) := by decide +kernel
theorem dX8_guard_15 : decode cX8_guard 15 = .ok (.invokevirtual 99, 3) := by decide +kernel
theorem dX8_guard_18 : decode cX8_guard 18 = .ok (.aload_n 0, 1) := by decide +kernel
theorem dX8_guard_19 : decode cX8_guard 19 = .ok (.aload_n 0, 1) := by decide +kernel
theorem dX8_guard_20 : decode cX8_guard 20 = .ok (.iload_n 1, 1) := by decide +kernel
theorem dX8_guard_21 : decode cX8_guard 21 = .ok (.invokevirtual 176, 3) := by decide +kernel
theorem dX8_guard_24 : decode cX8_guard 24 = .ok (.invokevirtual 99, 3) := by decide +kernel
theorem dX8_guard_27 : decode cX8_guard 27 = .ok (.if_icmp .le 7, 3) := by decide +kernel
theorem dX8_guard_30 : decode cX8_guard 30 = .ok (.iload_n 2, 1) := by decide +kernel
theorem dX8_guard_31 : decode cX8_guard 31 = .ok (.goto 4, 3) := by decide +kernel
theorem dX8_guard_34 : decode cX8_guard 34 = .ok (.iload_n 1, 1) := by decide +kernel
theorem dX8_guard_35 : decode cX8_guard 35 = .ok (.istore_n 1, 1) := by decide +kernel
theorem dX8_guard_36 : decode cX8_guard 36 = .ok (.iinc 2 1, 3) := by decide +kernel
theorem dX8_guard_39 : decode cX8_guard 39 = .ok (.goto (-35), 3) := by decide +kernel
theorem dX8_guard_42 : decode cX8_guard 42 = .ok (.iload_n 1, 1) := by decide +kernel
theorem dX8_guard_43 : decode cX8_guard 43 = .ok (.ireturn, 1) := by decide +kernel
theorem dX8_apartBy_0 : decode cX8_apartBy 0 = .ok (.iconst 2, 1) := by decide +kernel
theorem dX8_apartBy_1 : decode cX8_apartBy 1 = .ok (.aload_n 0, 1) := by decide +kernel
theorem dX8_apartBy_2 : decode cX8_apartBy 2 = .ok (.iload_n 1, 1) := by decide +kernel
theorem dX8_apartBy_3 : decode cX8_apartBy 3 = .ok (.invokevirtual 99, 3) := by decide +kernel
theorem dX8_apartBy_6 : decode cX8_apartBy 6 = .ok (.imul, 1) := by decide +kernel
theorem dX8_apartBy_7 : decode cX8_apartBy 7 = .ok (.aload_n 0, 1) := by decide +kernel
theorem dX8_apartBy_8 : decode cX8_apartBy 8 = .ok (.invokevirtual 146, 3) := by decide +kernel
theorem dX8_apartBy_11 : decode cX8_apartBy 11 = .ok (.isub, 1) := by decide +kernel
theorem dX8_apartBy_12 : decode cX8_apartBy 12 = .ok (.istore_n 2, 1) := by decide +kernel
theorem dX8_apartBy_13 : decode cX8_apartBy 13 = .ok (.iload_n 2, 1) := by decide +kernel
theorem dX8_apartBy_14 : decode cX8_apartBy 14 = .ok (.ifCond .ge 8, 3) := by decide +kernel
theorem dX8_apartBy_17 : decode cX8_apartBy 17 = .ok (.iload_n 2, 1) := by decide +kernel
theorem dX8_apartBy_18 : decode cX8_apartBy 18 = .ok (.ineg, 1) := by decide +kernel
theorem dX8_apartBy_19 : decode cX8_apartBy 19 = .ok (.goto 4, 3) := by decide +kernel
theorem dX8_apartBy_22 : decode cX8_apartBy 22 = .ok (.iload_n 2, 1) := by decide +kernel
theorem dX8_apartBy_23 : decode cX8_apartBy 23 = .ok (.ireturn, 1) := by decide +kernel
theorem dX8_bestHalf_0 : decode cX8_bestHalf 0 = .ok (.iconst 0, 1) := by decide +kernel
theorem dX8_bestHalf_1 : decode cX8_bestHalf 1 = .ok (.istore_n 1, 1) := by decide +kernel
theorem dX8_bestHalf_2 : decode cX8_bestHalf 2 = .ok (.iconst 1, 1) := by decide +kernel
theorem dX8_bestHalf_3 : decode cX8_bestHalf 3 = .ok (.istore_n 2, 1) := by decide +kernel
theorem dX8_bestHalf_4 : decode cX8_bestHalf 4 = .ok (.iload_n 2, 1) := by decide +kernel
theorem dX8_bestHalf_5 : decode cX8_bestHalf 5 = .ok (.sipush 256, 3) := by decide +kernel
theorem dX8_bestHalf_8 : decode cX8_bestHalf 8 = .ok (.if_icmp .ge 39, 3) := by decide +kernel
theorem dX8_bestHalf_11 : decode cX8_bestHalf 11 = .ok (.iload_n 2, 1) := by decide +kernel
theorem dX8_bestHalf_12 : decode cX8_bestHalf 12 = .ok (.aload_n 0, 1) := by decide +kernel
theorem dX8_bestHalf_13 : decode cX8_bestHalf 13 = .ok (.invokevirtual 95, 3) := by decide +kernel
theorem dX8_bestHalf_16 : decode cX8_bestHalf 16 = .ok (.iconst (-1), 1) := by decide +kernel
theorem dX8_bestHalf_17 : decode cX8_bestHalf 17 = .ok (.ixor, 1) := by decide +kernel
theorem dX8_bestHalf_18 : decode cX8_bestHalf 18 = .ok (.iand, 1) := by decide +kernel
theorem dX8_bestHalf_19 : decode cX8_bestHalf 19 = .ok (.ifCond .ne 20, 3) := by decide +kernel
theorem dX8_bestHalf_22 : decode cX8_bestHalf 22 = .ok (.aload_n 0, 1) := by decide +kernel
theorem dX8_bestHalf_23 : decode cX8_bestHalf 23 = .ok (.iload_n 2, 1) := by decide +kernel
theorem dX8_bestHalf_24 : decode cX8_bestHalf 24 = .ok (.invokevirtual 179, 3) := by decide +kernel
theorem dX8_bestHalf_27 : decode cX8_bestHalf 27 = .ok (.aload_n 0, 1) := by decide +kernel
theorem dX8_bestHalf_28 : decode cX8_bestHalf 28 = .ok (.iload_n 1, 1) := by decide +kernel
theorem dX8_bestHalf_29 : decode cX8_bestHalf 29 = .ok (.invokevirtual 179, 3) := by decide +kernel
theorem dX8_bestHalf_32 : decode cX8_bestHalf 32 = .ok (.if_icmp .ge 7, 3) := by decide +kernel
theorem dX8_bestHalf_35 : decode cX8_bestHalf 35 = .ok (.iload_n 2, 1) := by decide +kernel
theorem dX8_bestHalf_36 : decode cX8_bestHalf 36 = .ok (.goto 4, 3) := by decide +kernel
theorem dX8_bestHalf_39 : decode cX8_bestHalf 39 = .ok (.iload_n 1, 1) := by decide +kernel
theorem dX8_bestHalf_40 : decode cX8_bestHalf 40 = .ok (.istore_n 1, 1) := by decide +kernel
theorem dX8_bestHalf_41 : decode cX8_bestHalf 41 = .ok (.iinc 2 1, 3) := by decide +kernel
theorem dX8_bestHalf_44 : decode cX8_bestHalf 44 = .ok (.goto (-40), 3) := by decide +kernel
theorem dX8_bestHalf_47 : decode cX8_bestHalf 47 = .ok (.iload_n 1, 1) := by decide +kernel
theorem dX8_bestHalf_48 : decode cX8_bestHalf 48 = .ok (.ireturn, 1) := by decide +kernel
theorem dX8_halves_0 : decode cX8_halves 0 = .ok (.aload_n 0, 1) := by decide +kernel
theorem dX8_halves_1 : decode cX8_halves 1 = .ok (.invokevirtual 182, 3) := by decide +kernel
theorem dX8_halves_4 : decode cX8_halves 4 = .ok (.ireturn, 1) := by decide +kernel
theorem dX8_apart_0 : decode cX8_apart 0 = .ok (.aload_n 0, 1) := by decide +kernel
theorem dX8_apart_1 : decode cX8_apart 1 = .ok (.aload_n 0, 1) := by decide +kernel
theorem dX8_apart_2 : decode cX8_apart 2 = .ok (.invokevirtual 182, 3) := by decide +kernel
theorem dX8_apart_5 : decode cX8_apart 5 = .ok (.invokevirtual 179, 3) := by decide +kernel
theorem dX8_apart_8 : decode cX8_apart 8 = .ok (.ireturn, 1) := by decide +kernel
theorem dX8_sets_0 : decode cX8_sets 0 = .ok (.iload_n 1, 1) := by decide +kernel
theorem dX8_sets_1 : decode cX8_sets 1 = .ok (.sipush (-9999), 3) := by decide +kernel
theorem dX8_sets_4 : decode cX8_sets 4 = .ok (.sipush 9999, 3) := by decide +kernel
theorem dX8_sets_7 : decode cX8_sets 7 = .ok (.invokestatic 59, 3) := by decide +kernel
theorem dX8_sets_10 : decode cX8_sets 10 = .ok (.ifCond .ne 9, 3) := by decide +kernel
theorem dX8_sets_13 : decode cX8_sets 13 = .ok (.aload_n 0, 1) := by decide +kernel
theorem dX8_sets_14 : decode cX8_sets 14 = .ok (.iconst 0, 1) := by decide +kernel
theorem dX8_sets_15 : decode cX8_sets 15 = .ok (.invokevirtual 119, 3) := by decide +kernel
theorem dX8_sets_18 : decode cX8_sets 18 = .ok (.ireturn, 1) := by decide +kernel
theorem dX8_sets_19 : decode cX8_sets 19 = .ok (.iconst 0, 1) := by decide +kernel
theorem dX8_sets_20 : decode cX8_sets 20 = .ok (.istore_n 2, 1) := by decide +kernel
theorem dX8_sets_21 : decode cX8_sets 21 = .ok (.iconst 0, 1) := by decide +kernel
theorem dX8_sets_22 : decode cX8_sets 22 = .ok (.istore_n 3, 1) := by decide +kernel
theorem dX8_sets_23 : decode cX8_sets 23 = .ok (.iload_n 3, 1) := by decide +kernel
theorem dX8_sets_24 : decode cX8_sets 24 = .ok (.sipush 256, 3) := by decide +kernel
theorem dX8_sets_27 : decode cX8_sets 27 = .ok (.if_icmp .ge 37, 3) := by decide +kernel
theorem dX8_sets_30 : decode cX8_sets 30 = .ok (.iload_n 2, 1) := by decide +kernel
theorem dX8_sets_31 : decode cX8_sets 31 = .ok (.iload_n 3, 1) := by decide +kernel
theorem dX8_sets_32 : decode cX8_sets 32 = .ok (.aload_n 0, 1) := by decide +kernel
theorem dX8_sets_33 : decode cX8_sets 33 = .ok (.invokevirtual 95, 3) := by decide +kernel
theorem dX8_sets_36 : decode cX8_sets 36 = .ok (.iconst (-1), 1) := by decide +kernel
theorem dX8_sets_37 : decode cX8_sets 37 = .ok (.ixor, 1) := by decide +kernel
theorem dX8_sets_38 : decode cX8_sets 38 = .ok (.iand, 1) := by decide +kernel
theorem dX8_sets_39 : decode cX8_sets 39 = .ok (.ifCond .ne 16, 3) := by decide +kernel
theorem dX8_sets_42 : decode cX8_sets 42 = .ok (.aload_n 0, 1) := by decide +kernel
theorem dX8_sets_43 : decode cX8_sets 43 = .ok (.iload_n 3, 1) := by decide +kernel
theorem dX8_sets_44 : decode cX8_sets 44 = .ok (.invokevirtual 99, 3) := by decide +kernel
theorem dX8_sets_47 : decode cX8_sets 47 = .ok (.iload_n 1, 1) := by decide +kernel
theorem dX8_sets_48 : decode cX8_sets 48 = .ok (.if_icmp .ne 7, 3) := by decide +kernel
theorem dX8_sets_51 : decode cX8_sets 51 = .ok (.iconst 1, 1) := by decide +kernel
theorem dX8_sets_52 : decode cX8_sets 52 = .ok (.goto 4, 3) := by decide +kernel
theorem dX8_sets_55 : decode cX8_sets 55 = .ok (.iconst 0, 1) := by decide +kernel
theorem dX8_sets_56 : decode cX8_sets 56 = .ok (.iadd, 1) := by decide +kernel
theorem dX8_sets_57 : decode cX8_sets 57 = .ok (.istore_n 2, 1) := by decide +kernel
theorem dX8_sets_58 : decode cX8_sets 58 = .ok (.iinc 3 1, 3) := by decide +kernel
theorem dX8_sets_61 : decode cX8_sets 61 = .ok (.goto (-38), 3) := by decide +kernel
theorem dX8_sets_64 : decode cX8_sets 64 = .ok (.iload_n 2, 1) := by decide +kernel
theorem dX8_sets_65 : decode cX8_sets 65 = .ok (.ireturn, 1) := by decide +kernel
theorem dX8_isSheet_0 : decode cX8_isSheet 0 = .ok (.iload_n 0, 1) := by decide +kernel
theorem dX8_isSheet_1 : decode cX8_isSheet 1 = .ok (.iconst 0, 1) := by decide +kernel
theorem dX8_isSheet_2 : decode cX8_isSheet 2 = .ok (.iconst 3, 1) := by decide +kernel
theorem dX8_isSheet_3 : decode cX8_isSheet 3 = .ok (.invokestatic 59, 3) := by decide +kernel
theorem dX8_isSheet_6 : decode cX8_isSheet 6 = .ok (.ireturn, 1) := by decide +kernel
theorem dX8_wrongSheet_0 : decode cX8_wrongSheet 0 = .ok (.iload_n 1, 1) := by decide +kernel
theorem dX8_wrongSheet_1 : decode cX8_wrongSheet 1 = .ok (.invokestatic 185, 3) := by decide +kernel
theorem dX8_wrongSheet_4 : decode cX8_wrongSheet 4 = .ok (.ifCond .ne 7, 3) := by decide +kernel
theorem dX8_wrongSheet_7 : decode cX8_wrongSheet 7 = .ok (.iconst 0, 1) := by decide +kernel
theorem dX8_wrongSheet_8 : decode cX8_wrongSheet 8 = .ok (.goto 17, 3) := by decide +kernel
theorem dX8_wrongSheet_11 : decode cX8_wrongSheet 11 = .ok (.aload_n 0, 1) := by decide +kernel
theorem dX8_wrongSheet_12 : decode cX8_wrongSheet 12 = .ok (.getfield 45, 3) := by decide +kernel
theorem dX8_wrongSheet_15 : decode cX8_wrongSheet 15 = .ok (.iload_n 1, 1) := by decide +kernel
theorem dX8_wrongSheet_16 : decode cX8_wrongSheet 16 = .ok (.iaload, 1) := by decide +kernel
theorem dX8_wrongSheet_17 : decode cX8_wrongSheet 17 = .ok (.ifCond .ne 7, 3) := by decide +kernel
theorem dX8_wrongSheet_20 : decode cX8_wrongSheet 20 = .ok (.iconst 5, 1) := by decide +kernel
theorem dX8_wrongSheet_21 : decode cX8_wrongSheet 21 = .ok (.goto 4, 3) := by decide +kernel
theorem dX8_wrongSheet_24 : decode cX8_wrongSheet 24 = .ok (.iconst (-1), 1) := by decide +kernel
theorem dX8_wrongSheet_25 : decode cX8_wrongSheet 25 = .ok (.ireturn, 1) := by decide +kernel
theorem dX8_wrongAges_0 : decode cX8_wrongAges 0 = .ok (.aload_n 0, 1) := by decide +kernel
theorem dX8_wrongAges_1 : decode cX8_wrongAges 1 = .ok (.iload_n 1, 1) := by decide +kernel
theorem dX8_wrongAges_2 : decode cX8_wrongAges 2 = .ok (.invokevirtual 188, 3) := by decide +kernel
theorem dX8_wrongAges_5 : decode cX8_wrongAges 5 = .ok (.istore_n 3, 1) := by decide +kernel
theorem dX8_wrongAges_6 : decode cX8_wrongAges 6 = .ok (.iload_n 3, 1) := by decide +kernel
theorem dX8_wrongAges_7 : decode cX8_wrongAges 7 = .ok (.ifCond .lt 7, 3) := by decide +kernel
theorem dX8_wrongAges_10 : decode cX8_wrongAges 10 = .ok (.iload_n 3, 1) := by decide +kernel
theorem dX8_wrongAges_11 : decode cX8_wrongAges 11 = .ok (.goto 16, 3) := by decide +kernel
theorem dX8_wrongAges_14 : decode cX8_wrongAges 14 = .ok (.aload_n 0, 1) := by decide +kernel
theorem dX8_wrongAges_15 : decode cX8_wrongAges 15 = .ok (.iload_n 2, 1) := by decide +kernel
theorem dX8_wrongAges_16 : decode cX8_wrongAges 16 = .ok (.invokevirtual 122, 3) := by decide +kernel
theorem dX8_wrongAges_19 : decode cX8_wrongAges 19 = .ok (.ifCond .eq 7, 3) := by decide +kernel
theorem dX8_wrongAges_22 : decode cX8_wrongAges 22 = .ok (.iconst (-1), 1) := by decide +kernel
theorem dX8_wrongAges_23 : decode cX8_wrongAges 23 = .ok (.goto 4, 3) := by decide +kernel
theorem dX8_wrongAges_26 : decode cX8_wrongAges 26 = .ok (.iconst 0, 1) := by decide +kernel
theorem dX8_wrongAges_27 : decode cX8_wrongAges 27 = .ok (.ireturn, 1) := by decide +kernel
theorem dX8_agesSo_0 : decode cX8_agesSo 0 = .ok (.iconst 1, 1) := by decide +kernel
theorem dX8_agesSo_1 : decode cX8_agesSo 1 = .ok (.istore 4, 2) := by decide +kernel
theorem dX8_agesSo_3 : decode cX8_agesSo 3 = .ok (.iconst 0, 1) := by decide +kernel
theorem dX8_agesSo_4 : decode cX8_agesSo 4 = .ok (.istore 5, 2) := by decide +kernel
theorem dX8_agesSo_6 : decode cX8_agesSo 6 = .ok (.iload 5, 2) := by decide +kernel
theorem dX8_agesSo_8 : decode cX8_agesSo 8 = .ok (.aload_n 0, 1) := by decide +kernel
theorem dX8_agesSo_9 : decode cX8_agesSo 9 = .ok (.getfield 48, 3) := by decide +kernel
theorem dX8_agesSo_12 : decode cX8_agesSo 12 = .ok (.iload_n 1, 1) := by decide +kernel
theorem dX8_agesSo_13 : decode cX8_agesSo 13 = .ok (.iaload, 1) := by decide +kernel
theorem dX8_agesSo_14 : decode cX8_agesSo 14 = .ok (.if_icmp .ge 60, 3) := by decide +kernel
theorem dX8_agesSo_17 : decode cX8_agesSo 17 = .ok (.aload_n 0, 1) := by decide +kernel
theorem dX8_agesSo_18 : decode cX8_agesSo 18 = .ok (.getfield 51, 3) := by decide +kernel
theorem dX8_agesSo_21 : decode cX8_agesSo 21 = .ok (.bipush 40, 2) := by decide +kernel
theorem dX8_agesSo_23 : decode cX8_agesSo 23 = .ok (.iload_n 1, 1) := by decide +kernel
theorem dX8_agesSo_24 : decode cX8_agesSo 24 = .ok (.imul, 1) := by decide +kernel
theorem dX8_agesSo_25 : decode cX8_agesSo 25 = .ok (.iload 5, 2) := by decide +kernel
theorem dX8_agesSo_27 : decode cX8_agesSo 27 = .ok (.iadd, 1) := by decide +kernel
theorem dX8_agesSo_28 : decode cX8_agesSo 28 = .ok (.iaload, 1) := by decide +kernel
theorem dX8_agesSo_29 : decode cX8_agesSo 29 = .ok (.istore 6, 2) := by decide +kernel
theorem dX8_agesSo_31 : decode cX8_agesSo 31 = .ok (.iload 4, 2) := by decide +kernel
theorem dX8_agesSo_33 : decode cX8_agesSo 33 = .ok (.ifCond .eq 32, 3) := by decide +kernel
theorem dX8_agesSo_36 : decode cX8_agesSo 36 = .ok (.iload 6, 2) := by decide +kernel
theorem dX8_agesSo_38 : decode cX8_agesSo 38 = .ok (.iconst (-1), 1) := by decide +kernel
theorem dX8_agesSo_39 : decode cX8_agesSo 39 = .ok (.if_icmp .eq 22, 3) := by decide +kernel
theorem dX8_agesSo_42 : decode cX8_agesSo 42 = .ok (.iload 6, 2) := by decide +kernel
theorem dX8_agesSo_44 : decode cX8_agesSo 44 = .ok (.aload_n 0, 1) := by decide +kernel
theorem dX8_agesSo_45 : decode cX8_agesSo 45 = .ok (.iload_n 2, 1) := by decide +kernel
theorem dX8_agesSo_46 : decode cX8_agesSo 46 = .ok (.aload_n 0, 1) := by decide +kernel
theorem dX8_agesSo_47 : decode cX8_agesSo 47 = .ok (.iload_n 2, 1) := by decide +kernel
theorem dX8_agesSo_48 : decode cX8_agesSo 48 = .ok (.iconst 0, 1) := by decide +kernel
theorem dX8_agesSo_49 : decode cX8_agesSo 49 = .ok (.invokevirtual 63, 3) := by decide +kernel
theorem dX8_agesSo_52 : decode cX8_agesSo 52 = .ok (.iload_n 3, 1) := by decide +kernel
theorem dX8_agesSo_53 : decode cX8_agesSo 53 = .ok (.iload 5, 2) := by decide +kernel
theorem dX8_agesSo_55 : decode cX8_agesSo 55 = .ok (.invokevirtual 158, 3) := by decide +kernel
theorem dX8_agesSo_58 : decode cX8_agesSo 58 = .ok (.if_icmp .ne 7, 3) := by decide +kernel
theorem dX8_agesSo_61 : decode cX8_agesSo 61 = .ok (.iconst 1, 1) := by decide +kernel
theorem dX8_agesSo_62 : decode cX8_agesSo 62 = .ok (.goto 4, 3) := by decide +kernel
theorem dX8_agesSo_65 : decode cX8_agesSo 65 = .ok (.iconst 0, 1) := by decide +kernel
theorem dX8_agesSo_66 : decode cX8_agesSo 66 = .ok (.istore 4, 2) := by decide +kernel
theorem dX8_agesSo_68 : decode cX8_agesSo 68 = .ok (.iinc 5 1, 3) := by decide +kernel
theorem dX8_agesSo_71 : decode cX8_agesSo 71 = .ok (.goto (-65), 3) := by decide +kernel
theorem dX8_agesSo_74 : decode cX8_agesSo 74 = .ok (.iload 4, 2) := by decide +kernel
theorem dX8_agesSo_76 : decode cX8_agesSo 76 = .ok (.ireturn, 1) := by decide +kernel
theorem dX8_ages_0 : decode cX8_ages 0 = .ok (.aload_n 0, 1) := by decide +kernel
theorem dX8_ages_1 : decode cX8_ages 1 = .ok (.iload_n 1, 1) := by decide +kernel
theorem dX8_ages_2 : decode cX8_ages 2 = .ok (.iload_n 2, 1) := by decide +kernel
theorem dX8_ages_3 : decode cX8_ages 3 = .ok (.invokevirtual 191, 3) := by decide +kernel
theorem dX8_ages_6 : decode cX8_ages 6 = .ok (.istore_n 3, 1) := by decide +kernel
theorem dX8_ages_7 : decode cX8_ages 7 = .ok (.iload_n 3, 1) := by decide +kernel
theorem dX8_ages_8 : decode cX8_ages 8 = .ok (.ifCond .lt 9, 3) := by decide +kernel
theorem dX8_ages_11 : decode cX8_ages 11 = .ok (.aload_n 0, 1) := by decide +kernel
theorem dX8_ages_12 : decode cX8_ages 12 = .ok (.iload_n 3, 1) := by decide +kernel
theorem dX8_ages_13 : decode cX8_ages 13 = .ok (.invokevirtual 119, 3) := by decide +kernel
theorem dX8_ages_16 : decode cX8_ages 16 = .ok (.ireturn, 1) := by decide +kernel
theorem dX8_ages_17 : decode cX8_ages 17 = .ok (.iconst 0, 1) := by decide +kernel
theorem dX8_ages_18 : decode cX8_ages 18 = .ok (.istore 4, 2) := by decide +kernel
theorem dX8_ages_20 : decode cX8_ages 20 = .ok (.iconst 0, 1) := by decide +kernel
theorem dX8_ages_21 : decode cX8_ages 21 = .ok (.istore 5, 2) := by decide +kernel
theorem dX8_ages_23 : decode cX8_ages 23 = .ok (.iload 5, 2) := by decide +kernel
theorem dX8_ages_25 : decode cX8_ages 25 = .ok (.bipush 99, 2) := by decide +kernel
theorem dX8_ages_27 : decode cX8_ages 27 = .ok (.if_icmp .gt 30, 3) := by decide +kernel
theorem dX8_ages_30 : decode cX8_ages 30 = .ok (.iload 4, 2) := by decide +kernel
theorem dX8_ages_32 : decode cX8_ages 32 = .ok (.aload_n 0, 1) := by decide +kernel
theorem dX8_ages_33 : decode cX8_ages 33 = .ok (.iload_n 1, 1) := by decide +kernel
theorem dX8_ages_34 : decode cX8_ages 34 = .ok (.iload_n 2, 1) := by decide +kernel
theorem dX8_ages_35 : decode cX8_ages 35 = .ok (.iload 5, 2) := by decide +kernel
theorem dX8_ages_37 : decode cX8_ages 37 = .ok (.invokevirtual 194, 3) := by decide +kernel
theorem dX8_ages_40 : decode cX8_ages 40 = .ok (.ifCond .eq 7, 3) := by decide +kernel
theorem dX8_ages_43 : decode cX8_ages 43 = .ok (.iconst 1, 1) := by decide +kernel
theorem dX8_ages_44 : decode cX8_ages 44 = .ok (.goto 4, 3) := by decide +kernel
theorem dX8_ages_47 : decode cX8_ages 47 = .ok (.iconst 0, 1) := by decide +kernel
theorem dX8_ages_48 : decode cX8_ages 48 = .ok (.iadd, 1) := by decide +kernel
theorem dX8_ages_49 : decode cX8_ages 49 = .ok (.istore 4, 2) := by decide +kernel
theorem dX8_ages_51 : decode cX8_ages 51 = .ok (.iinc 5 1, 3) := by decide +kernel
theorem dX8_ages_54 : decode cX8_ages 54 = .ok (.goto (-31), 3) := by decide +kernel
theorem dX8_ages_57 : decode cX8_ages 57 = .ok (.iload 4, 2) := by decide +kernel
theorem dX8_ages_59 : decode cX8_ages 59 = .ok (.ireturn, 1) := by decide +kernel
theorem dX8_youngest_0 : decode cX8_youngest 0 = .ok (.aload_n 0, 1) := by decide +kernel
theorem dX8_youngest_1 : decode cX8_youngest 1 = .ok (.iload_n 1, 1) := by decide +kernel
theorem dX8_youngest_2 : decode cX8_youngest 2 = .ok (.iload_n 2, 1) := by decide +kernel
theorem dX8_youngest_3 : decode cX8_youngest 3 = .ok (.invokevirtual 191, 3) := by decide +kernel
theorem dX8_youngest_6 : decode cX8_youngest 6 = .ok (.istore_n 3, 1) := by decide +kernel
theorem dX8_youngest_7 : decode cX8_youngest 7 = .ok (.iload_n 3, 1) := by decide +kernel
theorem dX8_youngest_8 : decode cX8_youngest 8 = .ok (.ifCond .lt 9, 3) := by decide +kernel
theorem dX8_youngest_11 : decode cX8_youngest 11 = .ok (.aload_n 0, 1) := by decide +kernel
theorem dX8_youngest_12 : decode cX8_youngest 12 = .ok (.iload_n 3, 1) := by decide +kernel
theorem dX8_youngest_13 : decode cX8_youngest 13 = .ok (.invokevirtual 119, 3) := by decide +kernel
theorem dX8_youngest_16 : decode cX8_youngest 16 = .ok (.ireturn, 1) := by decide +kernel
theorem dX8_youngest_17 : decode cX8_youngest 17 = .ok (.iconst 0, 1) := by decide +kernel
theorem dX8_youngest_18 : decode cX8_youngest 18 = .ok (.istore 4, 2) := by decide +kernel
theorem dX8_youngest_20 : decode cX8_youngest 20 = .ok (.iload 4, 2) := by decide +kernel
theorem dX8_youngest_22 : decode cX8_youngest 22 = .ok (.bipush 99, 2) := by decide +kernel
theorem dX8_youngest_24 : decode cX8_youngest 24 = .ok (.if_icmp .gt 23, 3) := by decide +kernel
theorem dX8_youngest_27 : decode cX8_youngest 27 = .ok (.aload_n 0, 1) := by decide +kernel
theorem dX8_youngest_28 : decode cX8_youngest 28 = .ok (.iload_n 1, 1) := by decide +kernel
theorem dX8_youngest_29 : decode cX8_youngest 29 = .ok (.iload_n 2, 1) := by decide +kernel
theorem dX8_youngest_30 : decode cX8_youngest 30 = .ok (.iload 4, 2) := by decide +kernel
theorem dX8_youngest_32 : decode cX8_youngest 32 = .ok (.invokevirtual 194, 3) := by decide +kernel
theorem dX8_youngest_35 : decode cX8_youngest 35 = .ok (.ifCond .eq 6, 3) := by decide +kernel
theorem dX8_youngest_38 : decode cX8_youngest 38 = .ok (.iload 4, 2) := by decide +kernel
theorem dX8_youngest_40 : decode cX8_youngest 40 = .ok (.ireturn, 1) := by decide +kernel
theorem dX8_youngest_41 : decode cX8_youngest 41 = .ok (.iinc 4 1, 3) := by decide +kernel
theorem dX8_youngest_44 : decode cX8_youngest 44 = .ok (.goto (-24), 3) := by decide +kernel
theorem dX8_youngest_47 : decode cX8_youngest 47 = .ok (.aload_n 0, 1) := by decide +kernel
theorem dX8_youngest_48 : decode cX8_youngest 48 = .ok (.iconst 3, 1) := by decide +kernel
theorem dX8_youngest_49 : decode cX8_youngest 49 = .ok (.invokevirtual 119, 3) := by decide +kernel
theorem dX8_youngest_52 : decode cX8_youngest 52 = .ok (.ireturn, 1) := by decide +kernel
theorem dX8_draw_0 : decode cX8_draw 0 = .ok (.aload_n 0, 1) := by decide +kernel
theorem dX8_draw_1 : decode cX8_draw 1 = .ok (.getfield 9, 3) := by decide +kernel
theorem dX8_draw_4 : decode cX8_draw 4 = .ok (.iconst 2, 1) := by decide +kernel
theorem dX8_draw_5 : decode cX8_draw 5 = .ok (.aload_n 0, 1) := by decide +kernel
theorem dX8_draw_6 : decode cX8_draw 6 = .ok (.getfield 9, 3) := by decide +kernel
theorem dX8_draw_9 : decode cX8_draw 9 = .ok (.iconst 2, 1) := by decide +kernel
theorem dX8_draw_10 : decode cX8_draw 10 = .ok (.iaload, 1) := by decide +kernel
theorem dX8_draw_11 : decode cX8_draw 11 = .ok (.ldc 197, 2) := by decide +kernel
theorem dX8_draw_13 : decode cX8_draw 13 = .ok (.imul, 1) := by decide +kernel
theorem dX8_draw_14 : decode cX8_draw 14 = .ok (.sipush 12345, 3) := by decide +kernel
theorem dX8_draw_17 : decode cX8_draw 17 = .ok (.iadd, 1) := by decide +kernel
theorem dX8_draw_18 : decode cX8_draw 18 = .ok (.iastore, 1) := by decide +kernel
theorem dX8_draw_19 : decode cX8_draw 19 = .ok (.aload_n 0, 1) := by decide +kernel
theorem dX8_draw_20 : decode cX8_draw 20 = .ok (.getfield 9, 3) := by decide +kernel
theorem dX8_draw_23 : decode cX8_draw 23 = .ok (.iconst 2, 1) := by decide +kernel
theorem dX8_draw_24 : decode cX8_draw 24 = .ok (.iaload, 1) := by decide +kernel
theorem dX8_draw_25 : decode cX8_draw 25 = .ok (.bipush 8, 2) := by decide +kernel
theorem dX8_draw_27 : decode cX8_draw 27 = .ok (.iushr, 1) := by decide +kernel
theorem dX8_draw_28 : decode cX8_draw 28 = .ok (.ireturn, 1) := by decide +kernel
theorem dX8_foxes_0 : decode cX8_foxes 0 = .ok (.iload_n 1, 1) := by decide +kernel
theorem dX8_foxes_1 : decode cX8_foxes 1 = .ok (.iconst 1, 1) := by decide +kernel
theorem dX8_foxes_2 : decode cX8_foxes 2 = .ok (.bipush 20, 2) := by decide +kernel
theorem dX8_foxes_4 : decode cX8_foxes 4 = .ok (.invokestatic 59, 3) := by decide +kernel
theorem dX8_foxes_7 : decode cX8_foxes 7 = .ok (.ifCond .ne 9, 3) := by decide +kernel
theorem dX8_foxes_10 : decode cX8_foxes 10 = .ok (.aload_n 0, 1) := by decide +kernel
theorem dX8_foxes_11 : decode cX8_foxes 11 = .ok (.iconst 0, 1) := by decide +kernel
theorem dX8_foxes_12 : decode cX8_foxes 12 = .ok (.invokevirtual 119, 3) := by decide +kernel
theorem dX8_foxes_15 : decode cX8_foxes 15 = .ok (.ireturn, 1) := by decide +kernel
theorem dX8_foxes_16 : decode cX8_foxes 16 = .ok (.aload_n 0, 1) := by decide +kernel
theorem dX8_foxes_17 : decode cX8_foxes 17 = .ok (.getfield 9, 3) := by decide +kernel
theorem dX8_foxes_20 : decode cX8_foxes 20 = .ok (.iconst 0, 1) := by decide +kernel
theorem dX8_foxes_21 : decode cX8_foxes 21 = .ok (.iaload, 1) := by decide +kernel
theorem dX8_foxes_22 : decode cX8_foxes 22 = .ok (.iload_n 1, 1) := by decide +kernel
theorem dX8_foxes_23 : decode cX8_foxes 23 = .ok (.iadd, 1) := by decide +kernel
theorem dX8_foxes_24 : decode cX8_foxes 24 = .ok (.ldc 57, 2) := by decide +kernel
theorem dX8_foxes_26 : decode cX8_foxes 26 = .ok (.if_icmp .le 9, 3) := by decide +kernel
theorem dX8_foxes_29 : decode cX8_foxes 29 = .ok (.aload_n 0, 1) := by decide +kernel
theorem dX8_foxes_30 : decode cX8_foxes 30 = .ok (.iconst 4, 1) := by decide +kernel
theorem dX8_foxes_31 : decode cX8_foxes 31 = .ok (.invokevirtual 119, 3) := by decide +kernel
theorem dX8_foxes_34 : decode cX8_foxes 34 = .ok (.ireturn, 1) := by decide +kernel
theorem dX8_foxes_35 : decode cX8_foxes 35 = .ok (.iconst 0, 1) := by decide +kernel
theorem dX8_foxes_36 : decode cX8_foxes 36 = .ok (.istore_n 2, 1) := by decide +kernel
theorem dX8_foxes_37 : decode cX8_foxes 37 = .ok (.iconst 0, 1) := by decide +kernel
theorem dX8_foxes_38 : decode cX8_foxes 38 = .ok (.istore_n 3, 1) := by decide +kernel
theorem dX8_foxes_39 : decode cX8_foxes 39 = .ok (.iconst 0, 1) := by decide +kernel
theorem dX8_foxes_40 : decode cX8_foxes 40 = .ok (.istore 4, 2) := by decide +kernel
theorem dX8_foxes_42 : decode cX8_foxes 42 = .ok (.iload 4, 2) := by decide +kernel
theorem dX8_foxes_44 : decode cX8_foxes 44 = .ok (.iload_n 1, 1) := by decide +kernel
theorem dX8_foxes_45 : decode cX8_foxes 45 = .ok (.if_icmp .ge 63, 3) := by decide +kernel
theorem dX8_foxes_48 : decode cX8_foxes 48 = .ok (.aload_n 0, 1) := by decide +kernel
theorem dX8_foxes_49 : decode cX8_foxes 49 = .ok (.aload_n 0, 1) := by decide +kernel
theorem dX8_foxes_50 : decode cX8_foxes 50 = .ok (.invokevirtual 198, 3) := by decide +kernel
theorem dX8_foxes_53 : decode cX8_foxes 53 = .ok (.iconst 4, 1) := by decide +kernel
theorem dX8_foxes_54 : decode cX8_foxes 54 = .ok (.irem, 1) := by decide +kernel
theorem dX8_foxes_55 : decode cX8_foxes 55 = .ok (.invokevirtual 176, 3) := by decide +kernel
theorem dX8_foxes_58 : decode cX8_foxes 58 = .ok (.istore 5, 2) := by decide +kernel
theorem dX8_foxes_60 : decode cX8_foxes 60 = .ok (.iconst 0, 1) := by decide +kernel
theorem dX8_foxes_61 : decode cX8_foxes 61 = .ok (.istore 6, 2) := by decide +kernel
theorem dX8_foxes_63 : decode cX8_foxes 63 = .ok (.iload 6, 2) := by decide +kernel
theorem dX8_foxes_65 : decode cX8_foxes 65 = .ok (.bipush 8, 2) := by decide +kernel
theorem dX8_foxes_67 : decode cX8_foxes 67 = .ok (.if_icmp .ge 28, 3) := by decide +kernel
theorem dX8_foxes_70 : decode cX8_foxes 70 = .ok (.iload 5, 2) := by decide +kernel
theorem dX8_foxes_72 : decode cX8_foxes 72 = .ok (.iload 6, 2) := by decide +kernel
theorem dX8_foxes_74 : decode cX8_foxes 74 = .ok (.invokestatic 88, 3) := by decide +kernel
theorem dX8_foxes_77 : decode cX8_foxes 77 = .ok (.ifCond .eq 12, 3) := by decide +kernel
theorem dX8_foxes_80 : decode cX8_foxes 80 = .ok (.aload_n 0, 1) := by decide +kernel
theorem dX8_foxes_81 : decode cX8_foxes 81 = .ok (.iload 6, 2) := by decide +kernel
theorem dX8_foxes_83 : decode cX8_foxes 83 = .ok (.invokevirtual 109, 3) := by decide +kernel
theorem dX8_foxes_86 : decode cX8_foxes 86 = .ok (.iinc 2 1, 3) := by decide +kernel
theorem dX8_foxes_89 : decode cX8_foxes 89 = .ok (.iinc 6 1, 3) := by decide +kernel
theorem dX8_foxes_92 : decode cX8_foxes 92 = .ok (.goto (-29), 3) := by decide +kernel
theorem dX8_foxes_95 : decode cX8_foxes 95 = .ok (.iload_n 3, 1) := by decide +kernel
theorem dX8_foxes_96 : decode cX8_foxes 96 = .ok (.aload_n 0, 1) := by decide +kernel
theorem dX8_foxes_97 : decode cX8_foxes 97 = .ok (.invokevirtual 140, 3) := by decide +kernel
theorem dX8_foxes_100 : decode cX8_foxes 100 = .ok (.iadd, 1) := by decide +kernel
theorem dX8_foxes_101 : decode cX8_foxes 101 = .ok (.istore_n 3, 1) := by decide +kernel
theorem dX8_foxes_102 : decode cX8_foxes 102 = .ok (.iinc 4 1, 3) := by decide +kernel
theorem dX8_foxes_105 : decode cX8_foxes 105 = .ok (.goto (-63), 3) := by decide +kernel
theorem dX8_foxes_108 : decode cX8_foxes 108 = .ok (.iload_n 2, 1) := by decide +kernel
theorem dX8_foxes_109 : decode cX8_foxes 109 = .ok (.ireturn, 1) := by decide +kernel
theorem dX8_odds_0 : decode cX8_odds 0 = .ok (.iload_n 1, 1) := by decide +kernel
theorem dX8_odds_1 : decode cX8_odds 1 = .ok (.iconst 0, 1) := by decide +kernel
theorem dX8_odds_2 : decode cX8_odds 2 = .ok (.bipush 20, 2) := by decide +kernel
theorem dX8_odds_4 : decode cX8_odds 4 = .ok (.invokestatic 59, 3) := by decide +kernel
theorem dX8_odds_7 : decode cX8_odds 7 = .ok (.ifCond .eq 12, 3) := by decide +kernel
theorem dX8_odds_10 : decode cX8_odds 10 = .ok (.iload_n 2, 1) := by decide +kernel
theorem dX8_odds_11 : decode cX8_odds 11 = .ok (.iconst 0, 1) := by decide +kernel
theorem dX8_odds_12 : decode cX8_odds 12 = .ok (.iconst 1, 1) := by decide +kernel
theorem dX8_odds_13 : decode cX8_odds 13 = .ok (.invokestatic 59, 3) := by decide +kernel
theorem dX8_odds_16 : decode cX8_odds 16 = .ok (.ifCond .ne 10, 3) := by decide +kernel
theorem dX8_odds_19 : decode cX8_odds 19 = .ok (.aload_n 0, 1) := by decide +kernel
theorem dX8_odds_20 : decode cX8_odds 20 = .ok (.iconst 0, 1) := by decide +kernel
theorem dX8_odds_21 : decode cX8_odds 21 = .ok (.invokevirtual 119, 3) := by decide +kernel
theorem dX8_odds_24 : decode cX8_odds 24 = .ok (.i2l, 1) := by decide +kernel
theorem dX8_odds_25 : decode cX8_odds 25 = .ok (.lreturn, 1) := by decide +kernel
theorem dX8_odds_26 : decode cX8_odds 26 = .ok (.lconst 1, 1) := by decide +kernel
theorem dX8_odds_27 : decode cX8_odds 27 = .ok (.lstore_n 3, 1) := by decide +kernel
theorem dX8_odds_28 : decode cX8_odds 28 = .ok (.lconst 1, 1) := by decide +kernel
theorem dX8_odds_29 : decode cX8_odds 29 = .ok (.lstore 5, 2) := by decide +kernel
theorem dX8_odds_31 : decode cX8_odds 31 = .ok (.iconst 0, 1) := by decide +kernel
theorem dX8_odds_32 : decode cX8_odds 32 = .ok (.istore 7, 2) := by decide +kernel
theorem dX8_odds_34 : decode cX8_odds 34 = .ok (.iload 7, 2) := by decide +kernel
theorem dX8_odds_36 : decode cX8_odds 36 = .ok (.iload_n 1, 1) := by decide +kernel
theorem dX8_odds_37 : decode cX8_odds 37 = .ok (.if_icmp .ge 23, 3) := by decide +kernel
theorem dX8_odds_40 : decode cX8_odds 40 = .ok (.lload_n 3, 1) := by decide +kernel
theorem dX8_odds_41 : decode cX8_odds 41 = .ok (.ldc2_w 201, 3) := by decide +kernel
theorem dX8_odds_44 : decode cX8_odds 44 = .ok (.lmul, 1) := by decide +kernel
theorem dX8_odds_45 : decode cX8_odds 45 = .ok (.lstore_n 3, 1) := by decide +kernel
theorem dX8_odds_46 : decode cX8_odds 46 = .ok (.lload 5, 2) := by decide +kernel
theorem dX8_odds_48 : decode cX8_odds 48 = .ok (.ldc2_w 203, 3) := by decide +kernel
theorem dX8_odds_51 : decode cX8_odds 51 = .ok (.lmul, 1) := by decide +kernel
theorem dX8_odds_52 : decode cX8_odds 52 = .ok (.lstore 5, 2) := by decide +kernel
theorem dX8_odds_54 : decode cX8_odds 54 = .ok (.iinc 7 1, 3) := by decide +kernel
theorem dX8_odds_57 : decode cX8_odds 57 = .ok (.goto (-23), 3) := by decide +kernel
theorem dX8_odds_60 : decode cX8_odds 60 = .ok (.iload_n 2, 1) := by decide +kernel
theorem dX8_odds_61 : decode cX8_odds 61 = .ok (.ifCond .ne 7, 3) := by decide +kernel
theorem dX8_odds_64 : decode cX8_odds 64 = .ok (.lload_n 3, 1) := by decide +kernel
theorem dX8_odds_65 : decode cX8_odds 65 = .ok (.goto 5, 3) := by decide +kernel
theorem dX8_odds_68 : decode cX8_odds 68 = .ok (.lload 5, 2) := by decide +kernel
theorem dX8_odds_70 : decode cX8_odds 70 = .ok (.lreturn, 1) := by decide +kernel
theorem dX8_seed_0 : decode cX8_seed 0 = .ok (.aload_n 0, 1) := by decide +kernel
theorem dX8_seed_1 : decode cX8_seed 1 = .ok (.getfield 9, 3) := by decide +kernel
theorem dX8_seed_4 : decode cX8_seed 4 = .ok (.iconst 2, 1) := by decide +kernel
theorem dX8_seed_5 : decode cX8_seed 5 = .ok (.iaload, 1) := by decide +kernel
theorem dX8_seed_6 : decode cX8_seed 6 = .ok (.istore_n 2, 1) := by decide +kernel
theorem dX8_seed_7 : decode cX8_seed 7 = .ok (.aload_n 0, 1) := by decide +kernel
theorem dX8_seed_8 : decode cX8_seed 8 = .ok (.getfield 9, 3) := by decide +kernel
theorem dX8_seed_11 : decode cX8_seed 11 = .ok (.iconst 2, 1) := by decide +kernel
theorem dX8_seed_12 : decode cX8_seed 12 = .ok (.iload_n 1, 1) := by decide +kernel
theorem dX8_seed_13 : decode cX8_seed 13 = .ok (.iastore, 1) := by decide +kernel
theorem dX8_seed_14 : decode cX8_seed 14 = .ok (.iload_n 2, 1) := by decide +kernel
theorem dX8_seed_15 : decode cX8_seed 15 = .ok (.ireturn, 1) := by decide +kernel
theorem dX8_feed_0 : decode cX8_feed 0 = .ok (.iload_n 2, 1) := by decide +kernel
theorem dX8_feed_1 : decode cX8_feed 1 = .ok (.iconst 1, 1) := by decide +kernel
theorem dX8_feed_2 : decode cX8_feed 2 = .ok (.iconst 4, 1) := by decide +kernel
theorem dX8_feed_3 : decode cX8_feed 3 = .ok (.invokestatic 59, 3) := by decide +kernel
theorem dX8_feed_6 : decode cX8_feed 6 = .ok (.ifCond .ne 9, 3) := by decide +kernel
theorem dX8_feed_9 : decode cX8_feed 9 = .ok (.aload_n 0, 1) := by decide +kernel
theorem dX8_feed_10 : decode cX8_feed 10 = .ok (.iconst 0, 1) := by decide +kernel
theorem dX8_feed_11 : decode cX8_feed 11 = .ok (.invokevirtual 119, 3) := by decide +kernel
theorem dX8_feed_14 : decode cX8_feed 14 = .ok (.ireturn, 1) := by decide +kernel
theorem dX8_feed_15 : decode cX8_feed 15 = .ok (.aload_n 0, 1) := by decide +kernel
theorem dX8_feed_16 : decode cX8_feed 16 = .ok (.getfield 205, 3) := by decide +kernel
theorem dX8_feed_19 : decode cX8_feed 19 = .ok (.iload_n 2, 1) := by decide +kernel
theorem dX8_feed_20 : decode cX8_feed 20 = .ok (.iadd, 1) := by decide +kernel
theorem dX8_feed_21 : decode cX8_feed 21 = .ok (.bipush 120, 2) := by decide +kernel
theorem dX8_feed_23 : decode cX8_feed 23 = .ok (.if_icmp .le 9, 3) := by decide +kernel
theorem dX8_feed_26 : decode cX8_feed 26 = .ok (.aload_n 0, 1) := by decide +kernel
theorem dX8_feed_27 : decode cX8_feed 27 = .ok (.iconst 1, 1) := by decide +kernel
theorem dX8_feed_28 : decode cX8_feed 28 = .ok (.invokevirtual 119, 3) := by decide +kernel
theorem dX8_feed_31 : decode cX8_feed 31 = .ok (.ireturn, 1) := by decide +kernel
theorem dX8_feed_32 : decode cX8_feed 32 = .ok (.iload_n 2, 1) := by decide +kernel
theorem dX8_feed_33 : decode cX8_feed 33 = .ok (.iconst 1, 1) := by decide +kernel
theorem dX8_feed_34 : decode cX8_feed 34 = .ok (.isub, 1) := by decide +kernel
theorem dX8_feed_35 : decode cX8_feed 35 = .ok (.istore_n 3, 1) := by decide +kernel
theorem dX8_feed_36 : decode cX8_feed 36 = .ok (.iload_n 3, 1) := by decide +kernel
theorem dX8_feed_37 : decode cX8_feed 37 = .ok (.ifCond .lt 38, 3) := by decide +kernel
theorem dX8_feed_40 : decode cX8_feed 40 = .ok (.aload_n 0, 1) := by decide +kernel
theorem dX8_feed_41 : decode cX8_feed 41 = .ok (.getfield 29, 3) := by decide +kernel
theorem dX8_feed_44 : decode cX8_feed 44 = .ok (.aload_n 0, 1) := by decide +kernel
theorem dX8_feed_45 : decode cX8_feed 45 = .ok (.getfield 205, 3) := by decide +kernel
theorem dX8_feed_48 : decode cX8_feed 48 = .ok (.iload_n 1, 1) := by decide +kernel
theorem dX8_feed_49 : decode cX8_feed 49 = .ok (.bipush 8, 2) := by decide +kernel
theorem dX8_feed_51 : decode cX8_feed 51 = .ok (.iload_n 3, 1) := by decide +kernel
theorem dX8_feed_52 : decode cX8_feed 52 = .ok (.imul, 1) := by decide +kernel
theorem dX8_feed_53 : decode cX8_feed 53 = .ok (.ishr, 1) := by decide +kernel
theorem dX8_feed_54 : decode cX8_feed 54 = .ok (.sipush 255, 3) := by decide +kernel
theorem dX8_feed_57 : decode cX8_feed 57 = .ok (.iand, 1) := by decide +kernel
theorem dX8_feed_58 : decode cX8_feed 58 = .ok (.iastore, 1) := by decide +kernel
theorem dX8_feed_59 : decode cX8_feed 59 = .ok (.aload_n 0, 1) := by decide +kernel
theorem dX8_feed_60 : decode cX8_feed 60 = .ok (.dup, 1) := by decide +kernel
theorem dX8_feed_61 : decode cX8_feed 61 = .ok (.getfield 205, 3) := by decide +kernel
theorem dX8_feed_64 : decode cX8_feed 64 = .ok (.iconst 1, 1) := by decide +kernel
theorem dX8_feed_65 : decode cX8_feed 65 = .ok (.iadd, 1) := by decide +kernel
theorem dX8_feed_66 : decode cX8_feed 66 = .ok (.putfield 205, 3) := by decide +kernel
theorem dX8_feed_69 : decode cX8_feed 69 = .ok (.iinc 3 (-1), 3) := by decide +kernel
theorem dX8_feed_72 : decode cX8_feed 72 = .ok (.goto (-36), 3) := by decide +kernel
theorem dX8_feed_75 : decode cX8_feed 75 = .ok (.aload_n 0, 1) := by decide +kernel
theorem dX8_feed_76 : decode cX8_feed 76 = .ok (.getfield 205, 3) := by decide +kernel
theorem dX8_feed_79 : decode cX8_feed 79 = .ok (.ireturn, 1) := by decide +kernel
theorem dX8_wipe_0 : decode cX8_wipe 0 = .ok (.aload_n 0, 1) := by decide +kernel
theorem dX8_wipe_1 : decode cX8_wipe 1 = .ok (.getfield 205, 3) := by decide +kernel
theorem dX8_wipe_4 : decode cX8_wipe 4 = .ok (.istore_n 1, 1) := by decide +kernel
theorem dX8_wipe_5 : decode cX8_wipe 5 = .ok (.aload_n 0, 1) := by decide +kernel
theorem dX8_wipe_6 : decode cX8_wipe 6 = .ok (.iconst 0, 1) := by decide +kernel
theorem dX8_wipe_7 : decode cX8_wipe 7 = .ok (.putfield 205, 3) := by decide +kernel
theorem dX8_wipe_10 : decode cX8_wipe 10 = .ok (.iload_n 1, 1) := by decide +kernel
theorem dX8_wipe_11 : decode cX8_wipe 11 = .ok (.ireturn, 1) := by decide +kernel
theorem dX8_isLetter_0 : decode cX8_isLetter 0 = .ok (.iload_n 0, 1) := by decide +kernel
theorem dX8_isLetter_1 : decode cX8_isLetter 1 = .ok (.bipush 97, 2) := by decide +kernel
theorem dX8_isLetter_3 : decode cX8_isLetter 3 = .ok (.bipush 122, 2) := by decide +kernel
theorem dX8_isLetter_5 : decode cX8_isLetter 5 = .ok (.invokestatic 59, 3) := by decide +kernel
theorem dX8_isLetter_8 : decode cX8_isLetter 8 = .ok (.ireturn, 1) := by decide +kernel
theorem dX8_isDigit_0 : decode cX8_isDigit 0 = .ok (.iload_n 0, 1) := by decide +kernel
theorem dX8_isDigit_1 : decode cX8_isDigit 1 = .ok (.bipush 48, 2) := by decide +kernel
theorem dX8_isDigit_3 : decode cX8_isDigit 3 = .ok (.bipush 57, 2) := by decide +kernel
theorem dX8_isDigit_5 : decode cX8_isDigit 5 = .ok (.invokestatic 59, 3) := by decide +kernel
theorem dX8_isDigit_8 : decode cX8_isDigit 8 = .ok (.ireturn, 1) := by decide +kernel
theorem dX8_nextToken_0 : decode cX8_nextToken 0 = .ok (.aload_n 0, 1) := by decide +kernel
theorem dX8_nextToken_1 : decode cX8_nextToken 1 = .ok (.aload_n 0, 1) := by decide +kernel
theorem dX8_nextToken_2 : decode cX8_nextToken 2 = .ok (.getfield 209, 3) := by decide +kernel
theorem dX8_nextToken_5 : decode cX8_nextToken 5 = .ok (.putfield 212, 3) := by decide +kernel
theorem dX8_nextToken_8 : decode cX8_nextToken 8 = .ok (.aload_n 0, 1) := by decide +kernel
theorem dX8_nextToken_9 : decode cX8_nextToken 9 = .ok (.getfield 212, 3) := by decide +kernel
theorem dX8_nextToken_12 : decode cX8_nextToken 12 = .ok (.aload_n 0, 1) := by decide +kernel
theorem dX8_nextToken_13 : decode cX8_nextToken 13 = .ok (.getfield 205, 3) := by decide +kernel
theorem dX8_nextToken_16 : decode cX8_nextToken 16 = .ok (.if_icmp .ge 30, 3) := by decide +kernel
theorem dX8_nextToken_19 : decode cX8_nextToken 19 = .ok (.aload_n 0, 1) := by decide +kernel
theorem dX8_nextToken_20 : decode cX8_nextToken 20 = .ok (.getfield 29, 3) := by decide +kernel
theorem dX8_nextToken_23 : decode cX8_nextToken 23 = .ok (.aload_n 0, 1) := by decide +kernel
theorem dX8_nextToken_24 : decode cX8_nextToken 24 = .ok (.getfield 212, 3) := by decide +kernel
theorem dX8_nextToken_27 : decode cX8_nextToken 27 = .ok (.iaload, 1) := by decide +kernel
theorem dX8_nextToken_28 : decode cX8_nextToken 28 = .ok (.bipush 32, 2) := by decide +kernel
theorem dX8_nextToken_30 : decode cX8_nextToken 30 = .ok (.if_icmp .ne 16, 3) := by decide +kernel
theorem dX8_nextToken_33 : decode cX8_nextToken 33 = .ok (.aload_n 0, 1) := by decide +kernel
theorem dX8_nextToken_34 : decode cX8_nextToken 34 = .ok (.dup, 1) := by decide +kernel
theorem dX8_nextToken_35 : decode cX8_nextToken 35 = .ok (.getfield 212, 3) := by decide +kernel
theorem dX8_nextToken_38 : decode cX8_nextToken 38 = .ok (.iconst 1, 1) := by decide +kernel
theorem dX8_nextToken_39 : decode cX8_nextToken 39 = .ok (.iadd, 1) := by decide +kernel
theorem dX8_nextToken_40 : decode cX8_nextToken 40 = .ok (.putfield 212, 3) := by decide +kernel
theorem dX8_nextToken_43 : decode cX8_nextToken 43 = .ok (.goto (-35), 3) := by decide +kernel
theorem dX8_nextToken_46 : decode cX8_nextToken 46 = .ok (.aload_n 0, 1) := by decide +kernel
theorem dX8_nextToken_47 : decode cX8_nextToken 47 = .ok (.aload_n 0, 1) := by decide +kernel
theorem dX8_nextToken_48 : decode cX8_nextToken 48 = .ok (.getfield 212, 3) := by decide +kernel
theorem dX8_nextToken_51 : decode cX8_nextToken 51 = .ok (.putfield 209, 3) := by decide +kernel
theorem dX8_nextToken_54 : decode cX8_nextToken 54 = .ok (.aload_n 0, 1) := by decide +kernel
theorem dX8_nextToken_55 : decode cX8_nextToken 55 = .ok (.lconst 0, 1) := by decide +kernel
theorem dX8_nextToken_56 : decode cX8_nextToken 56 = .ok (.putfield 215, 3) := by decide +kernel
theorem dX8_nextToken_59 : decode cX8_nextToken 59 = .ok (.aload_n 0, 1) := by decide +kernel
theorem dX8_nextToken_60 : decode cX8_nextToken 60 = .ok (.getfield 212, 3) := by decide +kernel
theorem dX8_nextToken_63 : decode cX8_nextToken 63 = .ok (.aload_n 0, 1) := by decide +kernel
theorem dX8_nextToken_64 : decode cX8_nextToken 64 = .ok (.getfield 205, 3) := by decide +kernel
theorem dX8_nextToken_67 : decode cX8_nextToken 67 = .ok (.if_icmp .ne 11, 3) := by decide +kernel
theorem dX8_nextToken_70 : decode cX8_nextToken 70 = .ok (.aload_n 0, 1) := by decide +kernel
theorem dX8_nextToken_71 : decode cX8_nextToken 71 = .ok (.iconst 0, 1) := by decide +kernel
theorem dX8_nextToken_72 : decode cX8_nextToken 72 = .ok (.putfield 219, 3) := by decide +kernel
theorem dX8_nextToken_75 : decode cX8_nextToken 75 = .ok (.goto 262, 3) := by decide +kernel
theorem dX8_nextToken_78 : decode cX8_nextToken 78 = .ok (.aload_n 0, 1) := by decide +kernel
theorem dX8_nextToken_79 : decode cX8_nextToken 79 = .ok (.getfield 29, 3) := by decide +kernel
theorem dX8_nextToken_82 : decode cX8_nextToken 82 = .ok (.aload_n 0, 1) := by decide +kernel
theorem dX8_nextToken_83 : decode cX8_nextToken 83 = .ok (.getfield 212, 3) := by decide +kernel
theorem dX8_nextToken_86 : decode cX8_nextToken 86 = .ok (.iaload, 1) := by decide +kernel
theorem dX8_nextToken_87 : decode cX8_nextToken 87 = .ok (.invokestatic 222, 3) := by decide +kernel
theorem dX8_nextToken_90 : decode cX8_nextToken 90 = .ok (.ifCond .eq 92, 3) := by decide +kernel
theorem dX8_nextToken_93 : decode cX8_nextToken 93 = .ok (.aload_n 0, 1) := by decide +kernel
theorem dX8_nextToken_94 : decode cX8_nextToken 94 = .ok (.iconst 1, 1) := by decide +kernel
theorem dX8_nextToken_95 : decode cX8_nextToken 95 = .ok (.putfield 219, 3) := by decide +kernel
theorem dX8_nextToken_98 : decode cX8_nextToken 98 = .ok (.aload_n 0, 1) := by decide +kernel
theorem dX8_nextToken_99 : decode cX8_nextToken 99 = .ok (.getfield 209, 3) := by decide +kernel
theorem dX8_nextToken_102 : decode cX8_nextToken 102 = .ok (.aload_n 0, 1) := by decide +kernel
theorem dX8_nextToken_103 : decode cX8_nextToken 103 = .ok (.getfield 205, 3) := by decide +kernel
theorem dX8_nextToken_106 : decode cX8_nextToken 106 = .ok (.if_icmp .ge 231, 3) := by decide +kernel
theorem dX8_nextToken_109 : decode cX8_nextToken 109 = .ok (.aload_n 0, 1) := by decide +kernel
theorem dX8_nextToken_110 : decode cX8_nextToken 110 = .ok (.getfield 29, 3) := by decide +kernel
theorem dX8_nextToken_113 : decode cX8_nextToken 113 = .ok (.aload_n 0, 1) := by decide +kernel
theorem dX8_nextToken_114 : decode cX8_nextToken 114 = .ok (.getfield 209, 3) := by decide +kernel
theorem dX8_nextToken_117 : decode cX8_nextToken 117 = .ok (.iaload, 1) := by decide +kernel
theorem dX8_nextToken_118 : decode cX8_nextToken 118 = .ok (.invokestatic 222, 3) := by decide +kernel
theorem dX8_nextToken_121 : decode cX8_nextToken 121 = .ok (.ifCond .eq 216, 3) := by decide +kernel
theorem dX8_nextToken_124 : decode cX8_nextToken 124 = .ok (.aload_n 0, 1) := by decide +kernel
theorem dX8_nextToken_125 : decode cX8_nextToken 125 = .ok (.aload_n 0, 1) := by decide +kernel
theorem dX8_nextToken_126 : decode cX8_nextToken 126 = .ok (.getfield 215, 3) := by decide +kernel
theorem dX8_nextToken_129 : decode cX8_nextToken 129 = .ok (.ldc2_w 225, 3) := by decide +kernel
theorem dX8_nextToken_132 : decode cX8_nextToken 132 = .ok (.lcmp, 1) := by decide +kernel
theorem dX8_nextToken_133 : decode cX8_nextToken 133 = .ok (.ifCond .le 10, 3) := by decide +kernel
theorem dX8_nextToken_136 : decode cX8_nextToken 136 = .ok (.aload_n 0, 1) := by decide +kernel
theorem dX8_nextToken_137 : decode cX8_nextToken 137 = .ok (.getfield 215, 3) := by decide +kernel
theorem dX8_nextToken_140 : decode cX8_nextToken 140 = .ok (.goto 26, 3) := by decide +kernel
theorem dX8_nextToken_143 : decode cX8_nextToken 143 = .ok (.aload_n 0, 1) := by decide +kernel
theorem dX8_nextToken_144 : decode cX8_nextToken 144 = .ok (.getfield 215, 3) := by decide +kernel
theorem dX8_nextToken_147 : decode cX8_nextToken 147 = .ok (.ldc2_w 227, 3) := by decide +kernel
theorem dX8_nextToken_150 : decode cX8_nextToken 150 = .ok (.lmul, 1) := by decide +kernel
theorem dX8_nextToken_151 : decode cX8_nextToken 151 = .ok (.aload_n 0, 1) := by decide +kernel
theorem dX8_nextToken_152 : decode cX8_nextToken 152 = .ok (.getfield 29, 3) := by decide +kernel
theorem dX8_nextToken_155 : decode cX8_nextToken 155 = .ok (.aload_n 0, 1) := by decide +kernel
theorem dX8_nextToken_156 : decode cX8_nextToken 156 = .ok (.getfield 209, 3) := by decide +kernel
theorem dX8_nextToken_159 : decode cX8_nextToken 159 = .ok (.iaload, 1) := by decide +kernel
theorem dX8_nextToken_160 : decode cX8_nextToken 160 = .ok (.i2l, 1) := by decide +kernel
theorem dX8_nextToken_161 : decode cX8_nextToken 161 = .ok (.ladd, 1) := by decide +kernel
theorem dX8_nextToken_162 : decode cX8_nextToken 162 = .ok (.ldc2_w 229, 3) := by decide +kernel
theorem dX8_nextToken_165 : decode cX8_nextToken 165 = .ok (.lsub, 1) := by decide +kernel
theorem dX8_nextToken_166 : decode cX8_nextToken 166 = .ok (.putfield 215, 3) := by decide +kernel
theorem dX8_nextToken_169 : decode cX8_nextToken 169 = .ok (.aload_n 0, 1) := by decide +kernel
theorem dX8_nextToken_170 : decode cX8_nextToken 170 = .ok (.dup, 1) := by decide +kernel
theorem dX8_nextToken_171 : decode cX8_nextToken 171 = .ok (.getfield 209, 3) := by decide +kernel
theorem dX8_nextToken_174 : decode cX8_nextToken 174 = .ok (.iconst 1, 1) := by decide +kernel
theorem dX8_nextToken_175 : decode cX8_nextToken 175 = .ok (.iadd, 1) := by decide +kernel
theorem dX8_nextToken_176 : decode cX8_nextToken 176 = .ok (.putfield 209, 3) := by decide +kernel
theorem dX8_nextToken_179 : decode cX8_nextToken 179 = .ok (.goto (-81), 3) := by decide +kernel
theorem dX8_nextToken_182 : decode cX8_nextToken 182 = .ok (.aload_n 0, 1) := by decide +kernel
theorem dX8_nextToken_183 : decode cX8_nextToken 183 = .ok (.getfield 29, 3) := by decide +kernel
theorem dX8_nextToken_186 : decode cX8_nextToken 186 = .ok (.aload_n 0, 1) := by decide +kernel
theorem dX8_nextToken_187 : decode cX8_nextToken 187 = .ok (.getfield 212, 3) := by decide +kernel
theorem dX8_nextToken_190 : decode cX8_nextToken 190 = .ok (.iaload, 1) := by decide +kernel
theorem dX8_nextToken_191 : decode cX8_nextToken 191 = .ok (.invokestatic 231, 3) := by decide +kernel
theorem dX8_nextToken_194 : decode cX8_nextToken 194 = .ok (.ifCond .eq 110, 3) := by decide +kernel
theorem dX8_nextToken_197 : decode cX8_nextToken 197 = .ok (.aload_n 0, 1) := by decide +kernel
theorem dX8_nextToken_198 : decode cX8_nextToken 198 = .ok (.getfield 209, 3) := by decide +kernel
theorem dX8_nextToken_201 : decode cX8_nextToken 201 = .ok (.aload_n 0, 1) := by decide +kernel
theorem dX8_nextToken_202 : decode cX8_nextToken 202 = .ok (.getfield 205, 3) := by decide +kernel
theorem dX8_nextToken_205 : decode cX8_nextToken 205 = .ok (.if_icmp .ge 76, 3) := by decide +kernel
theorem dX8_nextToken_208 : decode cX8_nextToken 208 = .ok (.aload_n 0, 1) := by decide +kernel
theorem dX8_nextToken_209 : decode cX8_nextToken 209 = .ok (.getfield 29, 3) := by decide +kernel
theorem dX8_nextToken_212 : decode cX8_nextToken 212 = .ok (.aload_n 0, 1) := by decide +kernel
theorem dX8_nextToken_213 : decode cX8_nextToken 213 = .ok (.getfield 209, 3) := by decide +kernel
theorem dX8_nextToken_216 : decode cX8_nextToken 216 = .ok (.iaload, 1) := by decide +kernel
theorem dX8_nextToken_217 : decode cX8_nextToken 217 = .ok (.invokestatic 231, 3) := by decide +kernel
theorem dX8_nextToken_220 : decode cX8_nextToken 220 = .ok (.ifCond .eq 61, 3) := by decide +kernel
theorem dX8_nextToken_223 : decode cX8_nextToken 223 = .ok (.aload_n 0, 1) := by decide +kernel
theorem dX8_nextToken_224 : decode cX8_nextToken 224 = .ok (.aload_n 0, 1) := by decide +kernel
theorem dX8_nextToken_225 : decode cX8_nextToken 225 = .ok (.getfield 215, 3) := by decide +kernel
theorem dX8_nextToken_228 : decode cX8_nextToken 228 = .ok (.ldc2_w 234, 3) := by decide +kernel
theorem dX8_nextToken_231 : decode cX8_nextToken 231 = .ok (.lcmp, 1) := by decide +kernel
theorem dX8_nextToken_232 : decode cX8_nextToken 232 = .ok (.ifCond .le 10, 3) := by decide +kernel
theorem dX8_nextToken_235 : decode cX8_nextToken 235 = .ok (.aload_n 0, 1) := by decide +kernel
theorem dX8_nextToken_236 : decode cX8_nextToken 236 = .ok (.getfield 215, 3) := by decide +kernel
theorem dX8_nextToken_239 : decode cX8_nextToken 239 = .ok (.goto 26, 3) := by decide +kernel
theorem dX8_nextToken_242 : decode cX8_nextToken 242 = .ok (.aload_n 0, 1) := by decide +kernel
theorem dX8_nextToken_243 : decode cX8_nextToken 243 = .ok (.getfield 215, 3) := by decide +kernel
theorem dX8_nextToken_246 : decode cX8_nextToken 246 = .ok (.ldc2_w 236, 3) := by decide +kernel
theorem dX8_nextToken_249 : decode cX8_nextToken 249 = .ok (.lmul, 1) := by decide +kernel
theorem dX8_nextToken_250 : decode cX8_nextToken 250 = .ok (.aload_n 0, 1) := by decide +kernel
theorem dX8_nextToken_251 : decode cX8_nextToken 251 = .ok (.getfield 29, 3) := by decide +kernel
theorem dX8_nextToken_254 : decode cX8_nextToken 254 = .ok (.aload_n 0, 1) := by decide +kernel
theorem dX8_nextToken_255 : decode cX8_nextToken 255 = .ok (.getfield 209, 3) := by decide +kernel
theorem dX8_nextToken_258 : decode cX8_nextToken 258 = .ok (.iaload, 1) := by decide +kernel
theorem dX8_nextToken_259 : decode cX8_nextToken 259 = .ok (.i2l, 1) := by decide +kernel
theorem dX8_nextToken_260 : decode cX8_nextToken 260 = .ok (.ladd, 1) := by decide +kernel
theorem dX8_nextToken_261 : decode cX8_nextToken 261 = .ok (.ldc2_w 238, 3) := by decide +kernel
theorem dX8_nextToken_264 : decode cX8_nextToken 264 = .ok (.lsub, 1) := by decide +kernel
theorem dX8_nextToken_265 : decode cX8_nextToken 265 = .ok (.putfield 215, 3) := by decide +kernel
theorem dX8_nextToken_268 : decode cX8_nextToken 268 = .ok (.aload_n 0, 1) := by decide +kernel
theorem dX8_nextToken_269 : decode cX8_nextToken 269 = .ok (.dup, 1) := by decide +kernel
theorem dX8_nextToken_270 : decode cX8_nextToken 270 = .ok (.getfield 209, 3) := by decide +kernel
theorem dX8_nextToken_273 : decode cX8_nextToken 273 = .ok (.iconst 1, 1) := by decide +kernel
theorem dX8_nextToken_274 : decode cX8_nextToken 274 = .ok (.iadd, 1) := by decide +kernel
theorem dX8_nextToken_275 : decode cX8_nextToken 275 = .ok (.putfield 209, 3) := by decide +kernel
theorem dX8_nextToken_278 : decode cX8_nextToken 278 = .ok (.goto (-81), 3) := by decide +kernel
theorem dX8_nextToken_281 : decode cX8_nextToken 281 = .ok (.aload_n 0, 1) := by decide +kernel
theorem dX8_nextToken_282 : decode cX8_nextToken 282 = .ok (.aload_n 0, 1) := by decide +kernel
theorem dX8_nextToken_283 : decode cX8_nextToken 283 = .ok (.getfield 215, 3) := by decide +kernel
theorem dX8_nextToken_286 : decode cX8_nextToken 286 = .ok (.ldc2_w 234, 3) := by decide +kernel
theorem dX8_nextToken_289 : decode cX8_nextToken 289 = .ok (.lcmp, 1) := by decide +kernel
theorem dX8_nextToken_290 : decode cX8_nextToken 290 = .ok (.ifCond .le 7, 3) := by decide +kernel
theorem dX8_nextToken_293 : decode cX8_nextToken 293 = .ok (.iconst 4, 1) := by decide +kernel
theorem dX8_nextToken_294 : decode cX8_nextToken 294 = .ok (.goto 4, 3) := by decide +kernel
theorem dX8_nextToken_297 : decode cX8_nextToken 297 = .ok (.iconst 2, 1) := by decide +kernel
theorem dX8_nextToken_298 : decode cX8_nextToken 298 = .ok (.putfield 219, 3) := by decide +kernel
theorem dX8_nextToken_301 : decode cX8_nextToken 301 = .ok (.goto 36, 3) := by decide +kernel
theorem dX8_nextToken_304 : decode cX8_nextToken 304 = .ok (.aload_n 0, 1) := by decide +kernel
theorem dX8_nextToken_305 : decode cX8_nextToken 305 = .ok (.aload_n 0, 1) := by decide +kernel
theorem dX8_nextToken_306 : decode cX8_nextToken 306 = .ok (.getfield 29, 3) := by decide +kernel
theorem dX8_nextToken_309 : decode cX8_nextToken 309 = .ok (.aload_n 0, 1) := by decide +kernel
theorem dX8_nextToken_310 : decode cX8_nextToken 310 = .ok (.getfield 212, 3) := by decide +kernel
theorem dX8_nextToken_313 : decode cX8_nextToken 313 = .ok (.iaload, 1) := by decide +kernel
theorem dX8_nextToken_314 : decode cX8_nextToken 314 = .ok (.bipush 59, 2) := by decide +kernel
theorem dX8_nextToken_316 : decode cX8_nextToken 316 = .ok (.if_icmp .ne 7, 3) := by decide +kernel
theorem dX8_nextToken_319 : decode cX8_nextToken 319 = .ok (.iconst 3, 1) := by decide +kernel
theorem dX8_nextToken_320 : decode cX8_nextToken 320 = .ok (.goto 4, 3) := by decide +kernel
theorem dX8_nextToken_323 : decode cX8_nextToken 323 = .ok (.iconst 4, 1) := by decide +kernel
theorem dX8_nextToken_324 : decode cX8_nextToken 324 = .ok (.putfield 219, 3) := by decide +kernel
theorem dX8_nextToken_327 : decode cX8_nextToken 327 = .ok (.aload_n 0, 1) := by decide +kernel
theorem dX8_nextToken_328 : decode cX8_nextToken 328 = .ok (.dup, 1) := by decide +kernel
theorem dX8_nextToken_329 : decode cX8_nextToken 329 = .ok (.getfield 209, 3) := by decide +kernel
theorem dX8_nextToken_332 : decode cX8_nextToken 332 = .ok (.iconst 1, 1) := by decide +kernel
theorem dX8_nextToken_333 : decode cX8_nextToken 333 = .ok (.iadd, 1) := by decide +kernel
theorem dX8_nextToken_334 : decode cX8_nextToken 334 = .ok (.putfield 209, 3) := by decide +kernel
theorem dX8_nextToken_337 : decode cX8_nextToken 337 = .ok (.return_, 1) := by decide +kernel
theorem dX8_wordOf_0 : decode cX8_wordOf 0 = .ok (.iconst (-1), 1) := by decide +kernel
theorem dX8_wordOf_1 : decode cX8_wordOf 1 = .ok (.istore_n 2, 1) := by decide +kernel
theorem dX8_wordOf_2 : decode cX8_wordOf 2 = .ok (.iconst 0, 1) := by decide +kernel
theorem dX8_wordOf_3 : decode cX8_wordOf 3 = .ok (.istore_n 3, 1) := by decide +kernel
theorem dX8_wordOf_4 : decode cX8_wordOf 4 = .ok (.iload_n 3, 1) := by decide +kernel
theorem dX8_wordOf_5 : decode cX8_wordOf 5 = .ok (.aload_n 1, 1) := by decide +kernel
theorem dX8_wordOf_6 : decode cX8_wordOf 6 = .ok (.arraylength, 1) := by decide +kernel
theorem dX8_wordOf_7 : decode cX8_wordOf 7 = .ok (.bipush 8, 2) := by decide +kernel
theorem dX8_wordOf_9 : decode cX8_wordOf 9 = .ok (.idiv, 1) := by decide +kernel
theorem dX8_wordOf_10 : decode cX8_wordOf 10 = .ok (.if_icmp .ge 94, 3) := by decide +kernel
theorem dX8_wordOf_13 : decode cX8_wordOf 13 = .ok (.aload_n 0, 1) := by decide +kernel
theorem dX8_wordOf_14 : decode cX8_wordOf 14 = .ok (.getfield 219, 3) := by decide +kernel
theorem dX8_wordOf_17 : decode cX8_wordOf 17 = .ok (.iconst 1, 1) := by decide +kernel
theorem dX8_wordOf_18 : decode cX8_wordOf 18 = .ok (.if_icmp .ne 86, 3) := by decide +kernel
theorem dX8_wordOf_21 : decode cX8_wordOf 21 = .ok (.lconst 0, 1) := by decide +kernel
theorem dX8_wordOf_22 : decode cX8_wordOf 22 = .ok (.lstore 4, 2) := by decide +kernel
theorem dX8_wordOf_24 : decode cX8_wordOf 24 = .ok (.iconst 0, 1) := by decide +kernel
theorem dX8_wordOf_25 : decode cX8_wordOf 25 = .ok (.istore 6, 2) := by decide +kernel
theorem dX8_wordOf_27 : decode cX8_wordOf 27 = .ok (.iload 6, 2) := by decide +kernel
theorem dX8_wordOf_29 : decode cX8_wordOf 29 = .ok (.bipush 8, 2) := by decide +kernel
theorem dX8_wordOf_31 : decode cX8_wordOf 31 = .ok (.if_icmp .ge 51, 3) := by decide +kernel
theorem dX8_wordOf_34 : decode cX8_wordOf 34 = .ok (.aload_n 1, 1) := by decide +kernel
theorem dX8_wordOf_35 : decode cX8_wordOf 35 = .ok (.bipush 8, 2) := by decide +kernel
theorem dX8_wordOf_37 : decode cX8_wordOf 37 = .ok (.iload_n 3, 1) := by decide +kernel
theorem dX8_wordOf_38 : decode cX8_wordOf 38 = .ok (.imul, 1) := by decide +kernel
theorem dX8_wordOf_39 : decode cX8_wordOf 39 = .ok (.iload 6, 2) := by decide +kernel
theorem dX8_wordOf_41 : decode cX8_wordOf 41 = .ok (.iadd, 1) := by decide +kernel
theorem dX8_wordOf_42 : decode cX8_wordOf 42 = .ok (.caload, 1) := by decide +kernel
theorem dX8_wordOf_43 : decode cX8_wordOf 43 = .ok (.bipush 32, 2) := by decide +kernel
theorem dX8_wordOf_45 : decode cX8_wordOf 45 = .ok (.if_icmp .ne 8, 3) := by decide +kernel
theorem dX8_wordOf_48 : decode cX8_wordOf 48 = .ok (.lload 4, 2) := by decide +kernel
theorem dX8_wordOf_50 : decode cX8_wordOf 50 = .ok (.goto 24, 3) := by decide +kernel
theorem dX8_wordOf_53 : decode cX8_wordOf 53 = .ok (.lload 4, 2) := by decide +kernel
theorem dX8_wordOf_55 : decode cX8_wordOf 55 = .ok (.ldc2_w 227, 3) := by decide +kernel
theorem dX8_wordOf_58 : decode cX8_wordOf 58 = .ok (.lmul, 1) := by decide +kernel
theorem dX8_wordOf_59 : decode cX8_wordOf 59 = .ok (.aload_n 1, 1) := by decide +kernel
theorem dX8_wordOf_60 : decode cX8_wordOf 60 = .ok (.bipush 8, 2) := by decide +kernel
theorem dX8_wordOf_62 : decode cX8_wordOf 62 = .ok (.iload_n 3, 1) := by decide +kernel
theorem dX8_wordOf_63 : decode cX8_wordOf 63 = .ok (.imul, 1) := by decide +kernel
theorem dX8_wordOf_64 : decode cX8_wordOf 64 = .ok (.iload 6, 2) := by decide +kernel
theorem dX8_wordOf_66 : decode cX8_wordOf 66 = .ok (.iadd, 1) := by decide +kernel
theorem dX8_wordOf_67 : decode cX8_wordOf 67 = .ok (.caload, 1) := by decide +kernel
theorem dX8_wordOf_68 : decode cX8_wordOf 68 = .ok (.i2l, 1) := by decide +kernel
theorem dX8_wordOf_69 : decode cX8_wordOf 69 = .ok (.ladd, 1) := by decide +kernel
theorem dX8_wordOf_70 : decode cX8_wordOf 70 = .ok (.ldc2_w 229, 3) := by decide +kernel
theorem dX8_wordOf_73 : decode cX8_wordOf 73 = .ok (.lsub, 1) := by decide +kernel
theorem dX8_wordOf_74 : decode cX8_wordOf 74 = .ok (.lstore 4, 2) := by decide +kernel
theorem dX8_wordOf_76 : decode cX8_wordOf 76 = .ok (.iinc 6 1, 3) := by decide +kernel
theorem dX8_wordOf_79 : decode cX8_wordOf 79 = .ok (.goto (-52), 3) := by decide +kernel
theorem dX8_wordOf_82 : decode cX8_wordOf 82 = .ok (.lload 4, 2) := by decide +kernel
theorem dX8_wordOf_84 : decode cX8_wordOf 84 = .ok (.aload_n 0, 1) := by decide +kernel
theorem dX8_wordOf_85 : decode cX8_wordOf 85 = .ok (.getfield 215, 3) := by decide +kernel
theorem dX8_wordOf_88 : decode cX8_wordOf 88 = .ok (.lcmp, 1) := by decide +kernel
theorem dX8_wordOf_89 : decode cX8_wordOf 89 = .ok (.ifCond .ne 7, 3) := by decide +kernel
theorem dX8_wordOf_92 : decode cX8_wordOf 92 = .ok (.iload_n 3, 1) := by decide +kernel
theorem dX8_wordOf_93 : decode cX8_wordOf 93 = .ok (.goto 4, 3) := by decide +kernel
theorem dX8_wordOf_96 : decode cX8_wordOf 96 = .ok (.iload_n 2, 1) := by decide +kernel
theorem dX8_wordOf_97 : decode cX8_wordOf 97 = .ok (.istore_n 2, 1) := by decide +kernel
theorem dX8_wordOf_98 : decode cX8_wordOf 98 = .ok (.iinc 3 1, 3) := by decide +kernel
theorem dX8_wordOf_101 : decode cX8_wordOf 101 = .ok (.goto (-97), 3) := by decide +kernel
theorem dX8_wordOf_104 : decode cX8_wordOf 104 = .ok (.iload_n 2, 1) := by decide +kernel
theorem dX8_wordOf_105 : decode cX8_wordOf 105 = .ok (.ireturn, 1) := by decide +kernel
theorem dX8_takesNumber_0 : decode cX8_takesNumber 0 = .ok (.aload_n 0, 1) := by decide +kernel
theorem dX8_takesNumber_1 : decode cX8_takesNumber 1 = .ok (.getfield 219, 3) := by decide +kernel
theorem dX8_takesNumber_4 : decode cX8_takesNumber 4 = .ok (.iconst 2, 1) := by decide +kernel
theorem dX8_takesNumber_5 : decode cX8_takesNumber 5 = .ok (.if_icmp .ne 24, 3) := by decide +kernel
theorem dX8_takesNumber_8 : decode cX8_takesNumber 8 = .ok (.aload_n 0, 1) := by decide +kernel
theorem dX8_takesNumber_9 : decode cX8_takesNumber 9 = .ok (.getfield 215, 3) := by decide +kernel
theorem dX8_takesNumber_12 : decode cX8_takesNumber 12 = .ok (.l2i, 1) := by decide +kernel
theorem dX8_takesNumber_13 : decode cX8_takesNumber 13 = .ok (.iload_n 1, 1) := by decide +kernel
theorem dX8_takesNumber_14 : decode cX8_takesNumber 14 = .ok (.iload_n 2, 1) := by decide +kernel
theorem dX8_takesNumber_15 : decode cX8_takesNumber 15 = .ok (.invokestatic 59, 3) := by decide +kernel
theorem dX8_takesNumber_18 : decode cX8_takesNumber 18 = .ok (.ifCond .eq 11, 3) := by decide +kernel
theorem dX8_takesNumber_21 : decode cX8_takesNumber 21 = .ok (.aload_n 0, 1) := by decide +kernel
theorem dX8_takesNumber_22 : decode cX8_takesNumber 22 = .ok (.getfield 215, 3) := by decide +kernel
theorem dX8_takesNumber_25 : decode cX8_takesNumber 25 = .ok (.l2i, 1) := by decide +kernel
theorem dX8_takesNumber_26 : decode cX8_takesNumber 26 = .ok (.goto 4, 3) := by decide +kernel
theorem dX8_takesNumber_29 : decode cX8_takesNumber 29 = .ok (.iconst (-1), 1) := by decide +kernel
theorem dX8_takesNumber_30 : decode cX8_takesNumber 30 = .ok (.istore_n 3, 1) := by decide +kernel
theorem dX8_takesNumber_31 : decode cX8_takesNumber 31 = .ok (.iload_n 3, 1) := by decide +kernel
theorem dX8_takesNumber_32 : decode cX8_takesNumber 32 = .ok (.ifCond .lt 7, 3) := by decide +kernel
theorem dX8_takesNumber_35 : decode cX8_takesNumber 35 = .ok (.aload_n 0, 1) := by decide +kernel
theorem dX8_takesNumber_36 : decode cX8_takesNumber 36 = .ok (.invokevirtual 240, 3) := by decide +kernel
theorem dX8_takesNumber_39 : decode cX8_takesNumber 39 = .ok (.iload_n 3, 1) := by decide +kernel
theorem dX8_takesNumber_40 : decode cX8_takesNumber 40 = .ok (.ireturn, 1) := by decide +kernel
theorem dX8_readsEgg_0 : decode cX8_readsEgg 0 = .ok (.aload_n 0, 1) := by decide +kernel
theorem dX8_readsEgg_1 : decode cX8_readsEgg 1 = .ok (.invokevirtual 102, 3) := by decide +kernel
theorem dX8_readsEgg_4 : decode cX8_readsEgg 4 = .ok (.istore_n 2, 1) := by decide +kernel
theorem dX8_readsEgg_5 : decode cX8_readsEgg 5 = .ok (.iload_n 2, 1) := by decide +kernel
theorem dX8_readsEgg_6 : decode cX8_readsEgg 6 = .ok (.ifCond .ge 5, 3) := by decide +kernel
theorem dX8_readsEgg_9 : decode cX8_readsEgg 9 = .ok (.iconst 0, 1) := by decide +kernel
theorem dX8_readsEgg_10 : decode cX8_readsEgg 10 = .ok (.ireturn, 1) := by decide +kernel
theorem dX8_readsEgg_11 : decode cX8_readsEgg 11 = .ok (.aload_n 0, 1) := by decide +kernel
theorem dX8_readsEgg_12 : decode cX8_readsEgg 12 = .ok (.invokevirtual 240, 3) := by decide +kernel
theorem dX8_readsEgg_15 : decode cX8_readsEgg 15 = .ok (.aload_n 0, 1) := by decide +kernel
theorem dX8_readsEgg_16 : decode cX8_readsEgg 16 = .ok (.iconst 1, 1) := by decide +kernel
theorem dX8_readsEgg_17 : decode cX8_readsEgg 17 = .ok (.bipush 99, 2) := by decide +kernel
theorem dX8_readsEgg_19 : decode cX8_readsEgg 19 = .ok (.invokevirtual 243, 3) := by decide +kernel
theorem dX8_readsEgg_22 : decode cX8_readsEgg 22 = .ok (.istore_n 3, 1) := by decide +kernel
theorem dX8_readsEgg_23 : decode cX8_readsEgg 23 = .ok (.iload_n 3, 1) := by decide +kernel
theorem dX8_readsEgg_24 : decode cX8_readsEgg 24 = .ok (.ifCond .ge 5, 3) := by decide +kernel
theorem dX8_readsEgg_27 : decode cX8_readsEgg 27 = .ok (.iconst 0, 1) := by decide +kernel
theorem dX8_readsEgg_28 : decode cX8_readsEgg 28 = .ok (.ireturn, 1) := by decide +kernel
theorem dX8_readsEgg_29 : decode cX8_readsEgg 29 = .ok (.aload_n 0, 1) := by decide +kernel
theorem dX8_readsEgg_30 : decode cX8_readsEgg 30 = .ok (.iload_n 1, 1) := by decide +kernel
theorem dX8_readsEgg_31 : decode cX8_readsEgg 31 = .ok (.iload_n 3, 1) := by decide +kernel
theorem dX8_readsEgg_32 : decode cX8_readsEgg 32 = .ok (.iconst 0, 1) := by decide +kernel
theorem dX8_readsEgg_33 : decode cX8_readsEgg 33 = .ok (.iconst 0, 1) := by decide +kernel
theorem dX8_readsEgg_34 : decode cX8_readsEgg 34 = .ok (.invokevirtual 116, 3) := by decide +kernel
theorem dX8_readsEgg_37 : decode cX8_readsEgg 37 = .ok (.istore 4, 2) := by decide +kernel
theorem dX8_readsEgg_39 : decode cX8_readsEgg 39 = .ok (.iconst 0, 1) := by decide +kernel
theorem dX8_readsEgg_40 : decode cX8_readsEgg 40 = .ok (.istore 5, 2) := by decide +kernel
theorem dX8_readsEgg_42 : decode cX8_readsEgg 42 = .ok (.iload 5, 2) := by decide +kernel
theorem dX8_readsEgg_44 : decode cX8_readsEgg 44 = .ok (.iconst 2, 1) := by decide +kernel
theorem dX8_readsEgg_45 : decode cX8_readsEgg 45 = .ok (.if_icmp .ge 62, 3) := by decide +kernel
theorem dX8_readsEgg_48 : decode cX8_readsEgg 48 = .ok (.aload_n 0, 1) := by decide +kernel
theorem dX8_readsEgg_49 : decode cX8_readsEgg 49 = .ok (.aload_n 0, 1) := by decide +kernel
theorem dX8_readsEgg_50 : decode cX8_readsEgg 50 = .ok (.getfield 36, 3) := by decide +kernel
theorem dX8_readsEgg_53 : decode cX8_readsEgg 53 = .ok (.invokevirtual 246, 3) := by decide +kernel
theorem dX8_readsEgg_56 : decode cX8_readsEgg 56 = .ok (.iload 5, 2) := by decide +kernel
theorem dX8_readsEgg_58 : decode cX8_readsEgg 58 = .ok (.if_icmp .ne 43, 3) := by decide +kernel
theorem dX8_readsEgg_61 : decode cX8_readsEgg 61 = .ok (.aload_n 0, 1) := by decide +kernel
theorem dX8_readsEgg_62 : decode cX8_readsEgg 62 = .ok (.invokevirtual 240, 3) := by decide +kernel
theorem dX8_readsEgg_65 : decode cX8_readsEgg 65 = .ok (.aload_n 0, 1) := by decide +kernel
theorem dX8_readsEgg_66 : decode cX8_readsEgg 66 = .ok (.iconst 0, 1) := by decide +kernel
theorem dX8_readsEgg_67 : decode cX8_readsEgg 67 = .ok (.iload 5, 2) := by decide +kernel
theorem dX8_readsEgg_69 : decode cX8_readsEgg 69 = .ok (.ifCond .ne 8, 3) := by decide +kernel
theorem dX8_readsEgg_72 : decode cX8_readsEgg 72 = .ok (.bipush 99, 2) := by decide +kernel
theorem dX8_readsEgg_74 : decode cX8_readsEgg 74 = .ok (.goto 4, 3) := by decide +kernel
theorem dX8_readsEgg_77 : decode cX8_readsEgg 77 = .ok (.iconst 3, 1) := by decide +kernel
theorem dX8_readsEgg_78 : decode cX8_readsEgg 78 = .ok (.invokevirtual 243, 3) := by decide +kernel
theorem dX8_readsEgg_81 : decode cX8_readsEgg 81 = .ok (.istore 6, 2) := by decide +kernel
theorem dX8_readsEgg_83 : decode cX8_readsEgg 83 = .ok (.iload 6, 2) := by decide +kernel
theorem dX8_readsEgg_85 : decode cX8_readsEgg 85 = .ok (.ifCond .ge 5, 3) := by decide +kernel
theorem dX8_readsEgg_88 : decode cX8_readsEgg 88 = .ok (.iconst 0, 1) := by decide +kernel
theorem dX8_readsEgg_89 : decode cX8_readsEgg 89 = .ok (.ireturn, 1) := by decide +kernel
theorem dX8_readsEgg_90 : decode cX8_readsEgg 90 = .ok (.aload_n 0, 1) := by decide +kernel
theorem dX8_readsEgg_91 : decode cX8_readsEgg 91 = .ok (.iload_n 2, 1) := by decide +kernel
theorem dX8_readsEgg_92 : decode cX8_readsEgg 92 = .ok (.iconst 2, 1) := by decide +kernel
theorem dX8_readsEgg_93 : decode cX8_readsEgg 93 = .ok (.iload 5, 2) := by decide +kernel
theorem dX8_readsEgg_95 : decode cX8_readsEgg 95 = .ok (.iadd, 1) := by decide +kernel
theorem dX8_readsEgg_96 : decode cX8_readsEgg 96 = .ok (.iload 6, 2) := by decide +kernel
theorem dX8_readsEgg_98 : decode cX8_readsEgg 98 = .ok (.invokevirtual 105, 3) := by decide +kernel
theorem dX8_readsEgg_101 : decode cX8_readsEgg 101 = .ok (.iinc 5 1, 3) := by decide +kernel
theorem dX8_readsEgg_104 : decode cX8_readsEgg 104 = .ok (.goto (-62), 3) := by decide +kernel
theorem dX8_readsEgg_107 : decode cX8_readsEgg 107 = .ok (.iload 4, 2) := by decide +kernel
theorem dX8_readsEgg_109 : decode cX8_readsEgg 109 = .ok (.iload_n 2, 1) := by decide +kernel
theorem dX8_readsEgg_110 : decode cX8_readsEgg 110 = .ok (.if_icmp .ne 7, 3) := by decide +kernel
theorem dX8_readsEgg_113 : decode cX8_readsEgg 113 = .ok (.iconst 1, 1) := by decide +kernel
theorem dX8_readsEgg_114 : decode cX8_readsEgg 114 = .ok (.goto 4, 3) := by decide +kernel
theorem dX8_readsEgg_117 : decode cX8_readsEgg 117 = .ok (.iconst 0, 1) := by decide +kernel
theorem dX8_readsEgg_118 : decode cX8_readsEgg 118 = .ok (.ireturn, 1) := by decide +kernel
theorem dX8_readsHen_0 : decode cX8_readsHen 0 = .ok (.aload_n 0, 1) := by decide +kernel
theorem dX8_readsHen_1 : decode cX8_readsHen 1 = .ok (.iconst 0, 1) := by decide +kernel
theorem dX8_readsHen_2 : decode cX8_readsHen 2 = .ok (.iconst 3, 1) := by decide +kernel
theorem dX8_readsHen_3 : decode cX8_readsHen 3 = .ok (.invokevirtual 243, 3) := by decide +kernel
theorem dX8_readsHen_6 : decode cX8_readsHen 6 = .ok (.istore_n 1, 1) := by decide +kernel
theorem dX8_readsHen_7 : decode cX8_readsHen 7 = .ok (.iload_n 1, 1) := by decide +kernel
theorem dX8_readsHen_8 : decode cX8_readsHen 8 = .ok (.ifCond .ge 7, 3) := by decide +kernel
theorem dX8_readsHen_11 : decode cX8_readsHen 11 = .ok (.iconst (-1), 1) := by decide +kernel
theorem dX8_readsHen_12 : decode cX8_readsHen 12 = .ok (.goto 10, 3) := by decide +kernel
theorem dX8_readsHen_15 : decode cX8_readsHen 15 = .ok (.aload_n 0, 1) := by decide +kernel
theorem dX8_readsHen_16 : decode cX8_readsHen 16 = .ok (.iconst 0, 1) := by decide +kernel
theorem dX8_readsHen_17 : decode cX8_readsHen 17 = .ok (.bipush 30, 2) := by decide +kernel
theorem dX8_readsHen_19 : decode cX8_readsHen 19 = .ok (.invokevirtual 243, 3) := by decide +kernel
theorem dX8_readsHen_22 : decode cX8_readsHen 22 = .ok (.istore_n 2, 1) := by decide +kernel
theorem dX8_readsHen_23 : decode cX8_readsHen 23 = .ok (.iload_n 2, 1) := by decide +kernel
theorem dX8_readsHen_24 : decode cX8_readsHen 24 = .ok (.ifCond .ge 5, 3) := by decide +kernel
theorem dX8_readsHen_27 : decode cX8_readsHen 27 = .ok (.iconst 0, 1) := by decide +kernel
theorem dX8_readsHen_28 : decode cX8_readsHen 28 = .ok (.ireturn, 1) := by decide +kernel
theorem dX8_readsHen_29 : decode cX8_readsHen 29 = .ok (.aload_n 0, 1) := by decide +kernel
theorem dX8_readsHen_30 : decode cX8_readsHen 30 = .ok (.getfield 9, 3) := by decide +kernel
theorem dX8_readsHen_33 : decode cX8_readsHen 33 = .ok (.bipush 43, 2) := by decide +kernel
theorem dX8_readsHen_35 : decode cX8_readsHen 35 = .ok (.iconst 4, 1) := by decide +kernel
theorem dX8_readsHen_36 : decode cX8_readsHen 36 = .ok (.iload_n 1, 1) := by decide +kernel
theorem dX8_readsHen_37 : decode cX8_readsHen 37 = .ok (.imul, 1) := by decide +kernel
theorem dX8_readsHen_38 : decode cX8_readsHen 38 = .ok (.iadd, 1) := by decide +kernel
theorem dX8_readsHen_39 : decode cX8_readsHen 39 = .ok (.iconst 0, 1) := by decide +kernel
theorem dX8_readsHen_40 : decode cX8_readsHen 40 = .ok (.iadd, 1) := by decide +kernel
theorem dX8_readsHen_41 : decode cX8_readsHen 41 = .ok (.iload_n 2, 1) := by decide +kernel
theorem dX8_readsHen_42 : decode cX8_readsHen 42 = .ok (.iastore, 1) := by decide +kernel
theorem dX8_readsHen_43 : decode cX8_readsHen 43 = .ok (.iconst 1, 1) := by decide +kernel
theorem dX8_readsHen_44 : decode cX8_readsHen 44 = .ok (.ireturn, 1) := by decide +kernel
theorem dX8_readsWork_0 : decode cX8_readsWork 0 = .ok (.aload_n 0, 1) := by decide +kernel
theorem dX8_readsWork_1 : decode cX8_readsWork 1 = .ok (.iconst 0, 1) := by decide +kernel
theorem dX8_readsWork_2 : decode cX8_readsWork 2 = .ok (.iconst 5, 1) := by decide +kernel
theorem dX8_readsWork_3 : decode cX8_readsWork 3 = .ok (.invokevirtual 243, 3) := by decide +kernel
theorem dX8_readsWork_6 : decode cX8_readsWork 6 = .ok (.istore_n 1, 1) := by decide +kernel
theorem dX8_readsWork_7 : decode cX8_readsWork 7 = .ok (.iload_n 1, 1) := by decide +kernel
theorem dX8_readsWork_8 : decode cX8_readsWork 8 = .ok (.ifCond .ge 7, 3) := by decide +kernel
theorem dX8_readsWork_11 : decode cX8_readsWork 11 = .ok (.iconst (-1), 1) := by decide +kernel
theorem dX8_readsWork_12 : decode cX8_readsWork 12 = .ok (.goto 11, 3) := by decide +kernel
theorem dX8_readsWork_15 : decode cX8_readsWork 15 = .ok (.aload_n 0, 1) := by decide +kernel
theorem dX8_readsWork_16 : decode cX8_readsWork 16 = .ok (.iconst 0, 1) := by decide +kernel
theorem dX8_readsWork_17 : decode cX8_readsWork 17 = .ok (.sipush 999, 3) := by decide +kernel
theorem dX8_readsWork_20 : decode cX8_readsWork 20 = .ok (.invokevirtual 243, 3) := by decide +kernel
theorem dX8_readsWork_23 : decode cX8_readsWork 23 = .ok (.istore_n 2, 1) := by decide +kernel
theorem dX8_readsWork_24 : decode cX8_readsWork 24 = .ok (.iload_n 2, 1) := by decide +kernel
theorem dX8_readsWork_25 : decode cX8_readsWork 25 = .ok (.ifCond .ge 5, 3) := by decide +kernel
theorem dX8_readsWork_28 : decode cX8_readsWork 28 = .ok (.iconst 0, 1) := by decide +kernel
theorem dX8_readsWork_29 : decode cX8_readsWork 29 = .ok (.ireturn, 1) := by decide +kernel
theorem dX8_readsWork_30 : decode cX8_readsWork 30 = .ok (.aload_n 0, 1) := by decide +kernel
theorem dX8_readsWork_31 : decode cX8_readsWork 31 = .ok (.getfield 9, 3) := by decide +kernel
theorem dX8_readsWork_34 : decode cX8_readsWork 34 = .ok (.bipush 59, 2) := by decide +kernel
theorem dX8_readsWork_36 : decode cX8_readsWork 36 = .ok (.iconst 4, 1) := by decide +kernel
theorem dX8_readsWork_37 : decode cX8_readsWork 37 = .ok (.iload_n 1, 1) := by decide +kernel
theorem dX8_readsWork_38 : decode cX8_readsWork 38 = .ok (.imul, 1) := by decide +kernel
theorem dX8_readsWork_39 : decode cX8_readsWork 39 = .ok (.iadd, 1) := by decide +kernel
theorem dX8_readsWork_40 : decode cX8_readsWork 40 = .ok (.iconst 0, 1) := by decide +kernel
theorem dX8_readsWork_41 : decode cX8_readsWork 41 = .ok (.iadd, 1) := by decide +kernel
theorem dX8_readsWork_42 : decode cX8_readsWork 42 = .ok (.iload_n 2, 1) := by decide +kernel
theorem dX8_readsWork_43 : decode cX8_readsWork 43 = .ok (.iastore, 1) := by decide +kernel
theorem dX8_readsWork_44 : decode cX8_readsWork 44 = .ok (.iconst 0, 1) := by decide +kernel
theorem dX8_readsWork_45 : decode cX8_readsWork 45 = .ok (.istore_n 3, 1) := by decide +kernel
theorem dX8_readsWork_46 : decode cX8_readsWork 46 = .ok (.iload_n 3, 1) := by decide +kernel
theorem dX8_readsWork_47 : decode cX8_readsWork 47 = .ok (.iconst 2, 1) := by decide +kernel
theorem dX8_readsWork_48 : decode cX8_readsWork 48 = .ok (.if_icmp .ge 67, 3) := by decide +kernel
theorem dX8_readsWork_51 : decode cX8_readsWork 51 = .ok (.aload_n 0, 1) := by decide +kernel
theorem dX8_readsWork_52 : decode cX8_readsWork 52 = .ok (.aload_n 0, 1) := by decide +kernel
theorem dX8_readsWork_53 : decode cX8_readsWork 53 = .ok (.getfield 39, 3) := by decide +kernel
theorem dX8_readsWork_56 : decode cX8_readsWork 56 = .ok (.invokevirtual 246, 3) := by decide +kernel
theorem dX8_readsWork_59 : decode cX8_readsWork 59 = .ok (.iload_n 3, 1) := by decide +kernel
theorem dX8_readsWork_60 : decode cX8_readsWork 60 = .ok (.if_icmp .ne 49, 3) := by decide +kernel
theorem dX8_readsWork_63 : decode cX8_readsWork 63 = .ok (.aload_n 0, 1) := by decide +kernel
theorem dX8_readsWork_64 : decode cX8_readsWork 64 = .ok (.invokevirtual 240, 3) := by decide +kernel
theorem dX8_readsWork_67 : decode cX8_readsWork 67 = .ok (.aload_n 0, 1) := by decide +kernel
theorem dX8_readsWork_68 : decode cX8_readsWork 68 = .ok (.iconst 0, 1) := by decide +kernel
theorem dX8_readsWork_69 : decode cX8_readsWork 69 = .ok (.iload_n 3, 1) := by decide +kernel
theorem dX8_readsWork_70 : decode cX8_readsWork 70 = .ok (.ifCond .ne 8, 3) := by decide +kernel
theorem dX8_readsWork_73 : decode cX8_readsWork 73 = .ok (.ldc 57, 2) := by decide +kernel
theorem dX8_readsWork_75 : decode cX8_readsWork 75 = .ok (.goto 5, 3) := by decide +kernel
theorem dX8_readsWork_78 : decode cX8_readsWork 78 = .ok (.bipush 99, 2) := by decide +kernel
theorem dX8_readsWork_80 : decode cX8_readsWork 80 = .ok (.invokevirtual 243, 3) := by decide +kernel
theorem dX8_readsWork_83 : decode cX8_readsWork 83 = .ok (.istore 4, 2) := by decide +kernel
theorem dX8_readsWork_85 : decode cX8_readsWork 85 = .ok (.iload 4, 2) := by decide +kernel
theorem dX8_readsWork_87 : decode cX8_readsWork 87 = .ok (.ifCond .ge 5, 3) := by decide +kernel
theorem dX8_readsWork_90 : decode cX8_readsWork 90 = .ok (.iconst 0, 1) := by decide +kernel
theorem dX8_readsWork_91 : decode cX8_readsWork 91 = .ok (.ireturn, 1) := by decide +kernel
theorem dX8_readsWork_92 : decode cX8_readsWork 92 = .ok (.aload_n 0, 1) := by decide +kernel
theorem dX8_readsWork_93 : decode cX8_readsWork 93 = .ok (.getfield 9, 3) := by decide +kernel
theorem dX8_readsWork_96 : decode cX8_readsWork 96 = .ok (.bipush 59, 2) := by decide +kernel
theorem dX8_readsWork_98 : decode cX8_readsWork 98 = .ok (.iconst 4, 1) := by decide +kernel
theorem dX8_readsWork_99 : decode cX8_readsWork 99 = .ok (.iload_n 1, 1) := by decide +kernel
theorem dX8_readsWork_100 : decode cX8_readsWork 100 = .ok (.imul, 1) := by decide +kernel
theorem dX8_readsWork_101 : decode cX8_readsWork 101 = .ok (.iadd, 1) := by decide +kernel
theorem dX8_readsWork_102 : decode cX8_readsWork 102 = .ok (.iconst 1, 1) := by decide +kernel
theorem dX8_readsWork_103 : decode cX8_readsWork 103 = .ok (.iadd, 1) := by decide +kernel
theorem dX8_readsWork_104 : decode cX8_readsWork 104 = .ok (.iload_n 3, 1) := by decide +kernel
theorem dX8_readsWork_105 : decode cX8_readsWork 105 = .ok (.iadd, 1) := by decide +kernel
theorem dX8_readsWork_106 : decode cX8_readsWork 106 = .ok (.iload 4, 2) := by decide +kernel
theorem dX8_readsWork_108 : decode cX8_readsWork 108 = .ok (.iastore, 1) := by decide +kernel
theorem dX8_readsWork_109 : decode cX8_readsWork 109 = .ok (.iinc 3 1, 3) := by decide +kernel
theorem dX8_readsWork_112 : decode cX8_readsWork 112 = .ok (.goto (-66), 3) := by decide +kernel
theorem dX8_readsWork_115 : decode cX8_readsWork 115 = .ok (.iconst 1, 1) := by decide +kernel
theorem dX8_readsWork_116 : decode cX8_readsWork 116 = .ok (.ireturn, 1) := by decide +kernel
theorem dX8_readsItem_0 : decode cX8_readsItem 0 = .ok (.aload_n 0, 1) := by decide +kernel
theorem dX8_readsItem_1 : decode cX8_readsItem 1 = .ok (.aload_n 0, 1) := by decide +kernel
theorem dX8_readsItem_2 : decode cX8_readsItem 2 = .ok (.getfield 32, 3) := by decide +kernel
theorem dX8_readsItem_5 : decode cX8_readsItem 5 = .ok (.invokevirtual 246, 3) := by decide +kernel
theorem dX8_readsItem_8 : decode cX8_readsItem 8 = .ok (.istore_n 1, 1) := by decide +kernel
theorem dX8_readsItem_9 : decode cX8_readsItem 9 = .ok (.iload_n 1, 1) := by decide +kernel
theorem dX8_readsItem_10 : decode cX8_readsItem 10 = .ok (.ifCond .lt 9, 3) := by decide +kernel
theorem dX8_readsItem_13 : decode cX8_readsItem 13 = .ok (.aload_n 0, 1) := by decide +kernel
theorem dX8_readsItem_14 : decode cX8_readsItem 14 = .ok (.iload_n 1, 1) := by decide +kernel
theorem dX8_readsItem_15 : decode cX8_readsItem 15 = .ok (.invokevirtual 250, 3) := by decide +kernel
theorem dX8_readsItem_18 : decode cX8_readsItem 18 = .ok (.ireturn, 1) := by decide +kernel
theorem dX8_readsItem_19 : decode cX8_readsItem 19 = .ok (.aload_n 0, 1) := by decide +kernel
theorem dX8_readsItem_20 : decode cX8_readsItem 20 = .ok (.aload_n 0, 1) := by decide +kernel
theorem dX8_readsItem_21 : decode cX8_readsItem 21 = .ok (.getfield 42, 3) := by decide +kernel
theorem dX8_readsItem_24 : decode cX8_readsItem 24 = .ok (.invokevirtual 246, 3) := by decide +kernel
theorem dX8_readsItem_27 : decode cX8_readsItem 27 = .ok (.istore_n 2, 1) := by decide +kernel
theorem dX8_readsItem_28 : decode cX8_readsItem 28 = .ok (.iload_n 2, 1) := by decide +kernel
theorem dX8_readsItem_29 : decode cX8_readsItem 29 = .ok (.ifCond .ge 5, 3) := by decide +kernel
theorem dX8_readsItem_32 : decode cX8_readsItem 32 = .ok (.iconst 0, 1) := by decide +kernel
theorem dX8_readsItem_33 : decode cX8_readsItem 33 = .ok (.ireturn, 1) := by decide +kernel
theorem dX8_readsItem_34 : decode cX8_readsItem 34 = .ok (.aload_n 0, 1) := by decide +kernel
theorem dX8_readsItem_35 : decode cX8_readsItem 35 = .ok (.invokevirtual 240, 3) := by decide +kernel
theorem dX8_readsItem_38 : decode cX8_readsItem 38 = .ok (.iload_n 2, 1) := by decide +kernel
theorem dX8_readsItem_39 : decode cX8_readsItem 39 = .ok (.ifCond .ne 10, 3) := by decide +kernel
theorem dX8_readsItem_42 : decode cX8_readsItem 42 = .ok (.aload_n 0, 1) := by decide +kernel
theorem dX8_readsItem_43 : decode cX8_readsItem 43 = .ok (.invokevirtual 253, 3) := by decide +kernel
theorem dX8_readsItem_46 : decode cX8_readsItem 46 = .ok (.goto 7, 3) := by decide +kernel
theorem dX8_readsItem_49 : decode cX8_readsItem 49 = .ok (.aload_n 0, 1) := by decide +kernel
theorem dX8_readsItem_50 : decode cX8_readsItem 50 = .ok (.invokevirtual 257, 3) := by decide +kernel
theorem dX8_readsItem_53 : decode cX8_readsItem 53 = .ok (.ireturn, 1) := by decide +kernel
theorem dX8_text_0 : decode cX8_text 0 = .ok (.aload_n 0, 1) := by decide +kernel
theorem dX8_text_1 : decode cX8_text 1 = .ok (.invokevirtual 152, 3) := by decide +kernel
theorem dX8_text_4 : decode cX8_text 4 = .ok (.aload_n 0, 1) := by decide +kernel
theorem dX8_text_5 : decode cX8_text 5 = .ok (.iconst 0, 1) := by decide +kernel
theorem dX8_text_6 : decode cX8_text 6 = .ok (.putfield 209, 3) := by decide +kernel
theorem dX8_text_9 : decode cX8_text 9 = .ok (.aload_n 0, 1) := by decide +kernel
theorem dX8_text_10 : decode cX8_text 10 = .ok (.invokevirtual 240, 3) := by decide +kernel
theorem dX8_text_13 : decode cX8_text 13 = .ok (.iconst 1, 1) := by decide +kernel
theorem dX8_text_14 : decode cX8_text 14 = .ok (.istore_n 1, 1) := by decide +kernel
theorem dX8_text_15 : decode cX8_text 15 = .ok (.aload_n 0, 1) := by decide +kernel
theorem dX8_text_16 : decode cX8_text 16 = .ok (.invokevirtual 260, 3) := by decide +kernel
theorem dX8_text_19 : decode cX8_text 19 = .ok (.istore_n 2, 1) := by decide +kernel
theorem dX8_text_20 : decode cX8_text 20 = .ok (.iload_n 2, 1) := by decide +kernel
theorem dX8_text_21 : decode cX8_text 21 = .ok (.ifCond .eq 26, 3) := by decide +kernel
theorem dX8_text_24 : decode cX8_text 24 = .ok (.aload_n 0, 1) := by decide +kernel
theorem dX8_text_25 : decode cX8_text 25 = .ok (.getfield 219, 3) := by decide +kernel
theorem dX8_text_28 : decode cX8_text 28 = .ok (.iconst 3, 1) := by decide +kernel
theorem dX8_text_29 : decode cX8_text 29 = .ok (.if_icmp .ne 18, 3) := by decide +kernel
theorem dX8_text_32 : decode cX8_text 32 = .ok (.aload_n 0, 1) := by decide +kernel
theorem dX8_text_33 : decode cX8_text 33 = .ok (.invokevirtual 240, 3) := by decide +kernel
theorem dX8_text_36 : decode cX8_text 36 = .ok (.aload_n 0, 1) := by decide +kernel
theorem dX8_text_37 : decode cX8_text 37 = .ok (.invokevirtual 260, 3) := by decide +kernel
theorem dX8_text_40 : decode cX8_text 40 = .ok (.istore_n 2, 1) := by decide +kernel
theorem dX8_text_41 : decode cX8_text 41 = .ok (.iinc 1 1, 3) := by decide +kernel
theorem dX8_text_44 : decode cX8_text 44 = .ok (.goto (-24), 3) := by decide +kernel
theorem dX8_text_47 : decode cX8_text 47 = .ok (.iload_n 2, 1) := by decide +kernel
theorem dX8_text_48 : decode cX8_text 48 = .ok (.ifCond .eq 14, 3) := by decide +kernel
theorem dX8_text_51 : decode cX8_text 51 = .ok (.aload_n 0, 1) := by decide +kernel
theorem dX8_text_52 : decode cX8_text 52 = .ok (.getfield 219, 3) := by decide +kernel
theorem dX8_text_55 : decode cX8_text 55 = .ok (.ifCond .ne 7, 3) := by decide +kernel
theorem dX8_text_58 : decode cX8_text 58 = .ok (.iconst 1, 1) := by decide +kernel
theorem dX8_text_59 : decode cX8_text 59 = .ok (.goto 4, 3) := by decide +kernel
theorem dX8_text_62 : decode cX8_text 62 = .ok (.iconst 0, 1) := by decide +kernel
theorem dX8_text_63 : decode cX8_text 63 = .ok (.istore_n 2, 1) := by decide +kernel
theorem dX8_text_64 : decode cX8_text 64 = .ok (.aload_n 0, 1) := by decide +kernel
theorem dX8_text_65 : decode cX8_text 65 = .ok (.iconst 0, 1) := by decide +kernel
theorem dX8_text_66 : decode cX8_text 66 = .ok (.putfield 205, 3) := by decide +kernel
theorem dX8_text_69 : decode cX8_text 69 = .ok (.iload_n 2, 1) := by decide +kernel
theorem dX8_text_70 : decode cX8_text 70 = .ok (.ifCond .ne 14, 3) := by decide +kernel
theorem dX8_text_73 : decode cX8_text 73 = .ok (.aload_n 0, 1) := by decide +kernel
theorem dX8_text_74 : decode cX8_text 74 = .ok (.invokevirtual 155, 3) := by decide +kernel
theorem dX8_text_77 : decode cX8_text 77 = .ok (.iconst (-1), 1) := by decide +kernel
theorem dX8_text_78 : decode cX8_text 78 = .ok (.aload_n 0, 1) := by decide +kernel
theorem dX8_text_79 : decode cX8_text 79 = .ok (.getfield 212, 3) := by decide +kernel
theorem dX8_text_82 : decode cX8_text 82 = .ok (.isub, 1) := by decide +kernel
theorem dX8_text_83 : decode cX8_text 83 = .ok (.ireturn, 1) := by decide +kernel
theorem dX8_text_84 : decode cX8_text 84 = .ok (.iload_n 1, 1) := by decide +kernel
theorem dX8_text_85 : decode cX8_text 85 = .ok (.ireturn, 1) := by decide +kernel
theorem dX8_isSpot_0 : decode cX8_isSpot 0 = .ok (.iload_n 0, 1) := by decide +kernel
theorem dX8_isSpot_1 : decode cX8_isSpot 1 = .ok (.iconst 0, 1) := by decide +kernel
theorem dX8_isSpot_2 : decode cX8_isSpot 2 = .ok (.bipush 9, 2) := by decide +kernel
theorem dX8_isSpot_4 : decode cX8_isSpot 4 = .ok (.invokestatic 59, 3) := by decide +kernel
theorem dX8_isSpot_7 : decode cX8_isSpot 7 = .ok (.ireturn, 1) := by decide +kernel
theorem dX8_hold_0 : decode cX8_hold 0 = .ok (.iload_n 1, 1) := by decide +kernel
theorem dX8_hold_1 : decode cX8_hold 1 = .ok (.invokestatic 263, 3) := by decide +kernel
theorem dX8_hold_4 : decode cX8_hold 4 = .ok (.ifCond .eq 15, 3) := by decide +kernel
theorem dX8_hold_7 : decode cX8_hold 7 = .ok (.iload_n 2, 1) := by decide +kernel
theorem dX8_hold_8 : decode cX8_hold 8 = .ok (.iconst (-1), 1) := by decide +kernel
theorem dX8_hold_9 : decode cX8_hold 9 = .ok (.if_icmp .eq 16, 3) := by decide +kernel
theorem dX8_hold_12 : decode cX8_hold 12 = .ok (.iload_n 2, 1) := by decide +kernel
theorem dX8_hold_13 : decode cX8_hold 13 = .ok (.invokestatic 67, 3) := by decide +kernel
theorem dX8_hold_16 : decode cX8_hold 16 = .ok (.ifCond .ne 9, 3) := by decide +kernel
theorem dX8_hold_19 : decode cX8_hold 19 = .ok (.aload_n 0, 1) := by decide +kernel
theorem dX8_hold_20 : decode cX8_hold 20 = .ok (.iconst 0, 1) := by decide +kernel
theorem dX8_hold_21 : decode cX8_hold 21 = .ok (.invokevirtual 119, 3) := by decide +kernel
theorem dX8_hold_24 : decode cX8_hold 24 = .ok (.ireturn, 1) := by decide +kernel
theorem dX8_hold_25 : decode cX8_hold 25 = .ok (.aload_n 0, 1) := by decide +kernel
theorem dX8_hold_26 : decode cX8_hold 26 = .ok (.getfield 9, 3) := by decide +kernel
theorem dX8_hold_29 : decode cX8_hold 29 = .ok (.bipush 83, 2) := by decide +kernel
theorem dX8_hold_31 : decode cX8_hold 31 = .ok (.iload_n 1, 1) := by decide +kernel
theorem dX8_hold_32 : decode cX8_hold 32 = .ok (.iadd, 1) := by decide +kernel
theorem dX8_hold_33 : decode cX8_hold 33 = .ok (.iload_n 2, 1) := by decide +kernel
theorem dX8_hold_34 : decode cX8_hold 34 = .ok (.iastore, 1) := by decide +kernel
theorem dX8_hold_35 : decode cX8_hold 35 = .ok (.iconst 1, 1) := by decide +kernel
theorem dX8_hold_36 : decode cX8_hold 36 = .ok (.ireturn, 1) := by decide +kernel
theorem dX8_above_0 : decode cX8_above 0 = .ok (.iload_n 0, 1) := by decide +kernel
theorem dX8_above_1 : decode cX8_above 1 = .ok (.iconst 3, 1) := by decide +kernel
theorem dX8_above_2 : decode cX8_above 2 = .ok (.if_icmp .ne 7, 3) := by decide +kernel
theorem dX8_above_5 : decode cX8_above 5 = .ok (.iconst 2, 1) := by decide +kernel
theorem dX8_above_6 : decode cX8_above 6 = .ok (.goto 23, 3) := by decide +kernel
theorem dX8_above_9 : decode cX8_above 9 = .ok (.iload_n 0, 1) := by decide +kernel
theorem dX8_above_10 : decode cX8_above 10 = .ok (.iconst 4, 1) := by decide +kernel
theorem dX8_above_11 : decode cX8_above 11 = .ok (.if_icmp .ne 7, 3) := by decide +kernel
theorem dX8_above_14 : decode cX8_above 14 = .ok (.iconst 3, 1) := by decide +kernel
theorem dX8_above_15 : decode cX8_above 15 = .ok (.goto 14, 3) := by decide +kernel
theorem dX8_above_18 : decode cX8_above 18 = .ok (.iload_n 0, 1) := by decide +kernel
theorem dX8_above_19 : decode cX8_above 19 = .ok (.bipush 6, 2) := by decide +kernel
theorem dX8_above_21 : decode cX8_above 21 = .ok (.if_icmp .ne 7, 3) := by decide +kernel
theorem dX8_above_24 : decode cX8_above 24 = .ok (.iconst 1, 1) := by decide +kernel
theorem dX8_above_25 : decode cX8_above 25 = .ok (.goto 4, 3) := by decide +kernel
theorem dX8_above_28 : decode cX8_above 28 = .ok (.iconst 0, 1) := by decide +kernel
theorem dX8_above_29 : decode cX8_above 29 = .ok (.ireturn, 1) := by decide +kernel
theorem dX8_as_0 : decode cX8_as 0 = .ok (.iload_n 1, 1) := by decide +kernel
theorem dX8_as_1 : decode cX8_as 1 = .ok (.invokestatic 263, 3) := by decide +kernel
theorem dX8_as_4 : decode cX8_as 4 = .ok (.ifCond .eq 13, 3) := by decide +kernel
theorem dX8_as_7 : decode cX8_as 7 = .ok (.iload_n 2, 1) := by decide +kernel
theorem dX8_as_8 : decode cX8_as 8 = .ok (.iconst 0, 1) := by decide +kernel
theorem dX8_as_9 : decode cX8_as 9 = .ok (.bipush 6, 2) := by decide +kernel
theorem dX8_as_11 : decode cX8_as 11 = .ok (.invokestatic 59, 3) := by decide +kernel
theorem dX8_as_14 : decode cX8_as 14 = .ok (.ifCond .ne 9, 3) := by decide +kernel
theorem dX8_as_17 : decode cX8_as 17 = .ok (.aload_n 0, 1) := by decide +kernel
theorem dX8_as_18 : decode cX8_as 18 = .ok (.iconst 0, 1) := by decide +kernel
theorem dX8_as_19 : decode cX8_as 19 = .ok (.invokevirtual 119, 3) := by decide +kernel
theorem dX8_as_22 : decode cX8_as 22 = .ok (.ireturn, 1) := by decide +kernel
theorem dX8_as_23 : decode cX8_as 23 = .ok (.aload_n 0, 1) := by decide +kernel
theorem dX8_as_24 : decode cX8_as 24 = .ok (.getfield 9, 3) := by decide +kernel
theorem dX8_as_27 : decode cX8_as 27 = .ok (.bipush 83, 2) := by decide +kernel
theorem dX8_as_29 : decode cX8_as 29 = .ok (.iload_n 1, 1) := by decide +kernel
theorem dX8_as_30 : decode cX8_as 30 = .ok (.iadd, 1) := by decide +kernel
theorem dX8_as_31 : decode cX8_as 31 = .ok (.iaload, 1) := by decide +kernel
theorem dX8_as_32 : decode cX8_as 32 = .ok (.istore_n 3, 1) := by decide +kernel
theorem dX8_as_33 : decode cX8_as 33 = .ok (.iload_n 3, 1) := by decide +kernel
theorem dX8_as_34 : decode cX8_as 34 = .ok (.ifCond .lt 11, 3) := by decide +kernel
theorem dX8_as_37 : decode cX8_as 37 = .ok (.aload_n 0, 1) := by decide +kernel
theorem dX8_as_38 : decode cX8_as 38 = .ok (.iload_n 3, 1) := by decide +kernel
theorem dX8_as_39 : decode cX8_as 39 = .ok (.invokevirtual 71, 3) := by decide +kernel
theorem dX8_as_42 : decode cX8_as 42 = .ok (.ifCond .ne 9, 3) := by decide +kernel
theorem dX8_as_45 : decode cX8_as 45 = .ok (.aload_n 0, 1) := by decide +kernel
theorem dX8_as_46 : decode cX8_as 46 = .ok (.iconst 5, 1) := by decide +kernel
theorem dX8_as_47 : decode cX8_as 47 = .ok (.invokevirtual 119, 3) := by decide +kernel
theorem dX8_as_50 : decode cX8_as 50 = .ok (.ireturn, 1) := by decide +kernel
theorem dX8_as_51 : decode cX8_as 51 = .ok (.aload_n 0, 1) := by decide +kernel
theorem dX8_as_52 : decode cX8_as 52 = .ok (.iload_n 3, 1) := by decide +kernel
theorem dX8_as_53 : decode cX8_as 53 = .ok (.iconst 0, 1) := by decide +kernel
theorem dX8_as_54 : decode cX8_as 54 = .ok (.invokevirtual 63, 3) := by decide +kernel
theorem dX8_as_57 : decode cX8_as 57 = .ok (.istore 4, 2) := by decide +kernel
theorem dX8_as_59 : decode cX8_as 59 = .ok (.iload 4, 2) := by decide +kernel
theorem dX8_as_61 : decode cX8_as 61 = .ok (.iload_n 2, 1) := by decide +kernel
theorem dX8_as_62 : decode cX8_as 62 = .ok (.if_icmp .eq 18, 3) := by decide +kernel
theorem dX8_as_65 : decode cX8_as 65 = .ok (.iload 4, 2) := by decide +kernel
theorem dX8_as_67 : decode cX8_as 67 = .ok (.ifCond .eq 13, 3) := by decide +kernel
theorem dX8_as_70 : decode cX8_as 70 = .ok (.iload 4, 2) := by decide +kernel
theorem dX8_as_72 : decode cX8_as 72 = .ok (.invokestatic 266, 3) := by decide +kernel
theorem dX8_as_75 : decode cX8_as 75 = .ok (.istore 4, 2) := by decide +kernel
theorem dX8_as_77 : decode cX8_as 77 = .ok (.goto (-18), 3) := by decide +kernel
theorem dX8_as_80 : decode cX8_as 80 = .ok (.iload 4, 2) := by decide +kernel
theorem dX8_as_82 : decode cX8_as 82 = .ok (.iload_n 2, 1) := by decide +kernel
theorem dX8_as_83 : decode cX8_as 83 = .ok (.if_icmp .ne 7, 3) := by decide +kernel
theorem dX8_as_86 : decode cX8_as 86 = .ok (.iload_n 3, 1) := by decide +kernel
theorem dX8_as_87 : decode cX8_as 87 = .ok (.goto 8, 3) := by decide +kernel
theorem dX8_as_90 : decode cX8_as 90 = .ok (.aload_n 0, 1) := by decide +kernel
theorem dX8_as_91 : decode cX8_as 91 = .ok (.iconst 2, 1) := by decide +kernel
theorem dX8_as_92 : decode cX8_as 92 = .ok (.invokevirtual 119, 3) := by decide +kernel
theorem dX8_as_95 : decode cX8_as 95 = .ok (.ireturn, 1) := by decide +kernel
theorem dX8_sheet_0 : decode cX8_sheet 0 = .ok (.iload_n 1, 1) := by decide +kernel
theorem dX8_sheet_1 : decode cX8_sheet 1 = .ok (.invokestatic 185, 3) := by decide +kernel
theorem dX8_sheet_4 : decode cX8_sheet 4 = .ok (.ifCond .eq 25, 3) := by decide +kernel
theorem dX8_sheet_7 : decode cX8_sheet 7 = .ok (.iload_n 2, 1) := by decide +kernel
theorem dX8_sheet_8 : decode cX8_sheet 8 = .ok (.ifCond .eq 27, 3) := by decide +kernel
theorem dX8_sheet_11 : decode cX8_sheet 11 = .ok (.iload_n 2, 1) := by decide +kernel
theorem dX8_sheet_12 : decode cX8_sheet 12 = .ok (.bipush 8, 2) := by decide +kernel
theorem dX8_sheet_14 : decode cX8_sheet 14 = .ok (.if_icmp .eq 21, 3) := by decide +kernel
theorem dX8_sheet_17 : decode cX8_sheet 17 = .ok (.iload_n 2, 1) := by decide +kernel
theorem dX8_sheet_18 : decode cX8_sheet 18 = .ok (.bipush 16, 2) := by decide +kernel
theorem dX8_sheet_20 : decode cX8_sheet 20 = .ok (.if_icmp .eq 15, 3) := by decide +kernel
theorem dX8_sheet_23 : decode cX8_sheet 23 = .ok (.iload_n 2, 1) := by decide +kernel
theorem dX8_sheet_24 : decode cX8_sheet 24 = .ok (.bipush 32, 2) := by decide +kernel
theorem dX8_sheet_26 : decode cX8_sheet 26 = .ok (.if_icmp .eq 9, 3) := by decide +kernel
theorem dX8_sheet_29 : decode cX8_sheet 29 = .ok (.aload_n 0, 1) := by decide +kernel
theorem dX8_sheet_30 : decode cX8_sheet 30 = .ok (.iconst 0, 1) := by decide +kernel
theorem dX8_sheet_31 : decode cX8_sheet 31 = .ok (.invokevirtual 119, 3) := by decide +kernel
theorem dX8_sheet_34 : decode cX8_sheet 34 = .ok (.ireturn, 1) := by decide +kernel
theorem dX8_sheet_35 : decode cX8_sheet 35 = .ok (.iload_n 3, 1) := by decide +kernel
theorem dX8_sheet_36 : decode cX8_sheet 36 = .ok (.ifCond .ge 10, 3) := by decide +kernel
theorem dX8_sheet_39 : decode cX8_sheet 39 = .ok (.aload_n 0, 1) := by decide +kernel
theorem dX8_sheet_40 : decode cX8_sheet 40 = .ok (.bipush 6, 2) := by decide +kernel
theorem dX8_sheet_42 : decode cX8_sheet 42 = .ok (.invokevirtual 119, 3) := by decide +kernel
theorem dX8_sheet_45 : decode cX8_sheet 45 = .ok (.ireturn, 1) := by decide +kernel
theorem dX8_sheet_46 : decode cX8_sheet 46 = .ok (.iload_n 3, 1) := by decide +kernel
theorem dX8_sheet_47 : decode cX8_sheet 47 = .ok (.bipush 40, 2) := by decide +kernel
theorem dX8_sheet_49 : decode cX8_sheet 49 = .ok (.if_icmp .le 9, 3) := by decide +kernel
theorem dX8_sheet_52 : decode cX8_sheet 52 = .ok (.aload_n 0, 1) := by decide +kernel
theorem dX8_sheet_53 : decode cX8_sheet 53 = .ok (.iconst 0, 1) := by decide +kernel
theorem dX8_sheet_54 : decode cX8_sheet 54 = .ok (.invokevirtual 119, 3) := by decide +kernel
theorem dX8_sheet_57 : decode cX8_sheet 57 = .ok (.ireturn, 1) := by decide +kernel
theorem dX8_sheet_58 : decode cX8_sheet 58 = .ok (.aload_n 0, 1) := by decide +kernel
theorem dX8_sheet_59 : decode cX8_sheet 59 = .ok (.getfield 45, 3) := by decide +kernel
theorem dX8_sheet_62 : decode cX8_sheet 62 = .ok (.iload_n 1, 1) := by decide +kernel
theorem dX8_sheet_63 : decode cX8_sheet 63 = .ok (.iload_n 2, 1) := by decide +kernel
theorem dX8_sheet_64 : decode cX8_sheet 64 = .ok (.iastore, 1) := by decide +kernel
theorem dX8_sheet_65 : decode cX8_sheet 65 = .ok (.aload_n 0, 1) := by decide +kernel
theorem dX8_sheet_66 : decode cX8_sheet 66 = .ok (.getfield 48, 3) := by decide +kernel
theorem dX8_sheet_69 : decode cX8_sheet 69 = .ok (.iload_n 1, 1) := by decide +kernel
theorem dX8_sheet_70 : decode cX8_sheet 70 = .ok (.iload_n 2, 1) := by decide +kernel
theorem dX8_sheet_71 : decode cX8_sheet 71 = .ok (.ifCond .ne 7, 3) := by decide +kernel
theorem dX8_sheet_74 : decode cX8_sheet 74 = .ok (.iconst 0, 1) := by decide +kernel
theorem dX8_sheet_75 : decode cX8_sheet 75 = .ok (.goto 4, 3) := by decide +kernel
theorem dX8_sheet_78 : decode cX8_sheet 78 = .ok (.iload_n 3, 1) := by decide +kernel
theorem dX8_sheet_79 : decode cX8_sheet 79 = .ok (.iastore, 1) := by decide +kernel
theorem dX8_sheet_80 : decode cX8_sheet 80 = .ok (.iconst 0, 1) := by decide +kernel
theorem dX8_sheet_81 : decode cX8_sheet 81 = .ok (.istore 4, 2) := by decide +kernel
theorem dX8_sheet_83 : decode cX8_sheet 83 = .ok (.iload 4, 2) := by decide +kernel
theorem dX8_sheet_85 : decode cX8_sheet 85 = .ok (.bipush 40, 2) := by decide +kernel
theorem dX8_sheet_87 : decode cX8_sheet 87 = .ok (.if_icmp .ge 22, 3) := by decide +kernel
theorem dX8_sheet_90 : decode cX8_sheet 90 = .ok (.aload_n 0, 1) := by decide +kernel
theorem dX8_sheet_91 : decode cX8_sheet 91 = .ok (.getfield 51, 3) := by decide +kernel
theorem dX8_sheet_94 : decode cX8_sheet 94 = .ok (.bipush 40, 2) := by decide +kernel
theorem dX8_sheet_96 : decode cX8_sheet 96 = .ok (.iload_n 1, 1) := by decide +kernel
theorem dX8_sheet_97 : decode cX8_sheet 97 = .ok (.imul, 1) := by decide +kernel
theorem dX8_sheet_98 : decode cX8_sheet 98 = .ok (.iload 4, 2) := by decide +kernel
theorem dX8_sheet_100 : decode cX8_sheet 100 = .ok (.iadd, 1) := by decide +kernel
theorem dX8_sheet_101 : decode cX8_sheet 101 = .ok (.iconst 0, 1) := by decide +kernel
theorem dX8_sheet_102 : decode cX8_sheet 102 = .ok (.iastore, 1) := by decide +kernel
theorem dX8_sheet_103 : decode cX8_sheet 103 = .ok (.iinc 4 1, 3) := by decide +kernel
theorem dX8_sheet_106 : decode cX8_sheet 106 = .ok (.goto (-23), 3) := by decide +kernel
theorem dX8_sheet_109 : decode cX8_sheet 109 = .ok (.aload_n 0, 1) := by decide +kernel
theorem dX8_sheet_110 : decode cX8_sheet 110 = .ok (.getfield 48, 3) := by decide +kernel
theorem dX8_sheet_113 : decode cX8_sheet 113 = .ok (.iload_n 1, 1) := by decide +kernel
theorem dX8_sheet_114 : decode cX8_sheet 114 = .ok (.iaload, 1) := by decide +kernel
theorem dX8_sheet_115 : decode cX8_sheet 115 = .ok (.ireturn, 1) := by decide +kernel
theorem dX8_write_0 : decode cX8_write 0 = .ok (.aload_n 0, 1) := by decide +kernel
theorem dX8_write_1 : decode cX8_write 1 = .ok (.iload_n 1, 1) := by decide +kernel
theorem dX8_write_2 : decode cX8_write 2 = .ok (.invokevirtual 188, 3) := by decide +kernel
theorem dX8_write_5 : decode cX8_write 5 = .ok (.istore 4, 2) := by decide +kernel
theorem dX8_write_7 : decode cX8_write 7 = .ok (.iload 4, 2) := by decide +kernel
theorem dX8_write_9 : decode cX8_write 9 = .ok (.ifCond .ge 22, 3) := by decide +kernel
theorem dX8_write_12 : decode cX8_write 12 = .ok (.iload_n 2, 1) := by decide +kernel
theorem dX8_write_13 : decode cX8_write 13 = .ok (.iconst 0, 1) := by decide +kernel
theorem dX8_write_14 : decode cX8_write 14 = .ok (.aload_n 0, 1) := by decide +kernel
theorem dX8_write_15 : decode cX8_write 15 = .ok (.getfield 48, 3) := by decide +kernel
theorem dX8_write_18 : decode cX8_write 18 = .ok (.iload_n 1, 1) := by decide +kernel
theorem dX8_write_19 : decode cX8_write 19 = .ok (.iaload, 1) := by decide +kernel
theorem dX8_write_20 : decode cX8_write 20 = .ok (.iconst 1, 1) := by decide +kernel
theorem dX8_write_21 : decode cX8_write 21 = .ok (.isub, 1) := by decide +kernel
theorem dX8_write_22 : decode cX8_write 22 = .ok (.invokestatic 59, 3) := by decide +kernel
theorem dX8_write_25 : decode cX8_write 25 = .ok (.ifCond .ne 6, 3) := by decide +kernel
theorem dX8_write_28 : decode cX8_write 28 = .ok (.iconst 0, 1) := by decide +kernel
theorem dX8_write_29 : decode cX8_write 29 = .ok (.istore 4, 2) := by decide +kernel
theorem dX8_write_31 : decode cX8_write 31 = .ok (.iload 4, 2) := by decide +kernel
theorem dX8_write_33 : decode cX8_write 33 = .ok (.ifCond .lt 10, 3) := by decide +kernel
theorem dX8_write_36 : decode cX8_write 36 = .ok (.aload_n 0, 1) := by decide +kernel
theorem dX8_write_37 : decode cX8_write 37 = .ok (.iload 4, 2) := by decide +kernel
theorem dX8_write_39 : decode cX8_write 39 = .ok (.invokevirtual 119, 3) := by decide +kernel
theorem dX8_write_42 : decode cX8_write 42 = .ok (.ireturn, 1) := by decide +kernel
theorem dX8_write_43 : decode cX8_write 43 = .ok (.aload_n 0, 1) := by decide +kernel
theorem dX8_write_44 : decode cX8_write 44 = .ok (.getfield 51, 3) := by decide +kernel
theorem dX8_write_47 : decode cX8_write 47 = .ok (.bipush 40, 2) := by decide +kernel
theorem dX8_write_49 : decode cX8_write 49 = .ok (.iload_n 1, 1) := by decide +kernel
theorem dX8_write_50 : decode cX8_write 50 = .ok (.imul, 1) := by decide +kernel
theorem dX8_write_51 : decode cX8_write 51 = .ok (.iload_n 2, 1) := by decide +kernel
theorem dX8_write_52 : decode cX8_write 52 = .ok (.iadd, 1) := by decide +kernel
theorem dX8_write_53 : decode cX8_write 53 = .ok (.aload_n 0, 1) := by decide +kernel
theorem dX8_write_54 : decode cX8_write 54 = .ok (.getfield 45, 3) := by decide +kernel
theorem dX8_write_57 : decode cX8_write 57 = .ok (.iload_n 1, 1) := by decide +kernel
theorem dX8_write_58 : decode cX8_write 58 = .ok (.iaload, 1) := by decide +kernel
theorem dX8_write_59 : decode cX8_write 59 = .ok (.bipush 8, 2) := by decide +kernel
theorem dX8_write_61 : decode cX8_write 61 = .ok (.if_icmp .ne 8, 3) := by decide +kernel
theorem dX8_write_64 : decode cX8_write 64 = .ok (.iload_n 3, 1) := by decide +kernel
theorem dX8_write_65 : decode cX8_write 65 = .ok (.i2b, 1) := by decide +kernel
theorem dX8_write_66 : decode cX8_write 66 = .ok (.goto 20, 3) := by decide +kernel
theorem dX8_write_69 : decode cX8_write 69 = .ok (.aload_n 0, 1) := by decide +kernel
theorem dX8_write_70 : decode cX8_write 70 = .ok (.getfield 45, 3) := by decide +kernel
theorem dX8_write_73 : decode cX8_write 73 = .ok (.iload_n 1, 1) := by decide +kernel
theorem dX8_write_74 : decode cX8_write 74 = .ok (.iaload, 1) := by decide +kernel
theorem dX8_write_75 : decode cX8_write 75 = .ok (.bipush 16, 2) := by decide +kernel
theorem dX8_write_77 : decode cX8_write 77 = .ok (.if_icmp .ne 8, 3) := by decide +kernel
theorem dX8_write_80 : decode cX8_write 80 = .ok (.iload_n 3, 1) := by decide +kernel
theorem dX8_write_81 : decode cX8_write 81 = .ok (.i2s, 1) := by decide +kernel
theorem dX8_write_82 : decode cX8_write 82 = .ok (.goto 4, 3) := by decide +kernel
theorem dX8_write_85 : decode cX8_write 85 = .ok (.iload_n 3, 1) := by decide +kernel
theorem dX8_write_86 : decode cX8_write 86 = .ok (.iastore, 1) := by decide +kernel
theorem dX8_write_87 : decode cX8_write 87 = .ok (.iconst 1, 1) := by decide +kernel
theorem dX8_write_88 : decode cX8_write 88 = .ok (.ireturn, 1) := by decide +kernel
theorem dX8_copy_0 : decode cX8_copy 0 = .ok (.iload_n 1, 1) := by decide +kernel
theorem dX8_copy_1 : decode cX8_copy 1 = .ok (.invokestatic 185, 3) := by decide +kernel
theorem dX8_copy_4 : decode cX8_copy 4 = .ok (.ifCond .eq 10, 3) := by decide +kernel
theorem dX8_copy_7 : decode cX8_copy 7 = .ok (.iload_n 3, 1) := by decide +kernel
theorem dX8_copy_8 : decode cX8_copy 8 = .ok (.invokestatic 185, 3) := by decide +kernel
theorem dX8_copy_11 : decode cX8_copy 11 = .ok (.ifCond .ne 9, 3) := by decide +kernel
theorem dX8_copy_14 : decode cX8_copy 14 = .ok (.aload_n 0, 1) := by decide +kernel
theorem dX8_copy_15 : decode cX8_copy 15 = .ok (.iconst 0, 1) := by decide +kernel
theorem dX8_copy_16 : decode cX8_copy 16 = .ok (.invokevirtual 119, 3) := by decide +kernel
theorem dX8_copy_19 : decode cX8_copy 19 = .ok (.ireturn, 1) := by decide +kernel
theorem dX8_copy_20 : decode cX8_copy 20 = .ok (.aload_n 0, 1) := by decide +kernel
theorem dX8_copy_21 : decode cX8_copy 21 = .ok (.getfield 45, 3) := by decide +kernel
theorem dX8_copy_24 : decode cX8_copy 24 = .ok (.iload_n 1, 1) := by decide +kernel
theorem dX8_copy_25 : decode cX8_copy 25 = .ok (.iaload, 1) := by decide +kernel
theorem dX8_copy_26 : decode cX8_copy 26 = .ok (.ifCond .eq 12, 3) := by decide +kernel
theorem dX8_copy_29 : decode cX8_copy 29 = .ok (.aload_n 0, 1) := by decide +kernel
theorem dX8_copy_30 : decode cX8_copy 30 = .ok (.getfield 45, 3) := by decide +kernel
theorem dX8_copy_33 : decode cX8_copy 33 = .ok (.iload_n 3, 1) := by decide +kernel
theorem dX8_copy_34 : decode cX8_copy 34 = .ok (.iaload, 1) := by decide +kernel
theorem dX8_copy_35 : decode cX8_copy 35 = .ok (.ifCond .ne 9, 3) := by decide +kernel
theorem dX8_copy_38 : decode cX8_copy 38 = .ok (.aload_n 0, 1) := by decide +kernel
theorem dX8_copy_39 : decode cX8_copy 39 = .ok (.iconst 5, 1) := by decide +kernel
theorem dX8_copy_40 : decode cX8_copy 40 = .ok (.invokevirtual 119, 3) := by decide +kernel
theorem dX8_copy_43 : decode cX8_copy 43 = .ok (.ireturn, 1) := by decide +kernel
theorem dX8_copy_44 : decode cX8_copy 44 = .ok (.aload_n 0, 1) := by decide +kernel
theorem dX8_copy_45 : decode cX8_copy 45 = .ok (.getfield 45, 3) := by decide +kernel
theorem dX8_copy_48 : decode cX8_copy 48 = .ok (.iload_n 1, 1) := by decide +kernel
theorem dX8_copy_49 : decode cX8_copy 49 = .ok (.iaload, 1) := by decide +kernel
theorem dX8_copy_50 : decode cX8_copy 50 = .ok (.aload_n 0, 1) := by decide +kernel
theorem dX8_copy_51 : decode cX8_copy 51 = .ok (.getfield 45, 3) := by decide +kernel
theorem dX8_copy_54 : decode cX8_copy 54 = .ok (.iload_n 3, 1) := by decide +kernel
theorem dX8_copy_55 : decode cX8_copy 55 = .ok (.iaload, 1) := by decide +kernel
theorem dX8_copy_56 : decode cX8_copy 56 = .ok (.if_icmp .eq 9, 3) := by decide +kernel
theorem dX8_copy_59 : decode cX8_copy 59 = .ok (.aload_n 0, 1) := by decide +kernel
theorem dX8_copy_60 : decode cX8_copy 60 = .ok (.iconst 2, 1) := by decide +kernel
theorem dX8_copy_61 : decode cX8_copy 61 = .ok (.invokevirtual 119, 3) := by decide +kernel
theorem dX8_copy_64 : decode cX8_copy 64 = .ok (.ireturn, 1) := by decide +kernel
theorem dX8_copy_65 : decode cX8_copy 65 = .ok (.iload 5, 2) := by decide +kernel
theorem dX8_copy_67 : decode cX8_copy 67 = .ok (.ifCond .lt 39, 3) := by decide +kernel
theorem dX8_copy_70 : decode cX8_copy 70 = .ok (.iload_n 2, 1) := by decide +kernel
theorem dX8_copy_71 : decode cX8_copy 71 = .ok (.ifCond .lt 35, 3) := by decide +kernel
theorem dX8_copy_74 : decode cX8_copy 74 = .ok (.iload 4, 2) := by decide +kernel
theorem dX8_copy_76 : decode cX8_copy 76 = .ok (.ifCond .lt 30, 3) := by decide +kernel
theorem dX8_copy_79 : decode cX8_copy 79 = .ok (.iload_n 2, 1) := by decide +kernel
theorem dX8_copy_80 : decode cX8_copy 80 = .ok (.aload_n 0, 1) := by decide +kernel
theorem dX8_copy_81 : decode cX8_copy 81 = .ok (.getfield 48, 3) := by decide +kernel
theorem dX8_copy_84 : decode cX8_copy 84 = .ok (.iload_n 1, 1) := by decide +kernel
theorem dX8_copy_85 : decode cX8_copy 85 = .ok (.iaload, 1) := by decide +kernel
theorem dX8_copy_86 : decode cX8_copy 86 = .ok (.iload 5, 2) := by decide +kernel
theorem dX8_copy_88 : decode cX8_copy 88 = .ok (.isub, 1) := by decide +kernel
theorem dX8_copy_89 : decode cX8_copy 89 = .ok (.if_icmp .gt 17, 3) := by decide +kernel
theorem dX8_copy_92 : decode cX8_copy 92 = .ok (.iload 4, 2) := by decide +kernel
theorem dX8_copy_94 : decode cX8_copy 94 = .ok (.aload_n 0, 1) := by decide +kernel
theorem dX8_copy_95 : decode cX8_copy 95 = .ok (.getfield 48, 3) := by decide +kernel
theorem dX8_copy_98 : decode cX8_copy 98 = .ok (.iload_n 3, 1) := by decide +kernel
theorem dX8_copy_99 : decode cX8_copy 99 = .ok (.iaload, 1) := by decide +kernel
theorem dX8_copy_100 : decode cX8_copy 100 = .ok (.iload 5, 2) := by decide +kernel
theorem dX8_copy_102 : decode cX8_copy 102 = .ok (.isub, 1) := by decide +kernel
theorem dX8_copy_103 : decode cX8_copy 103 = .ok (.if_icmp .le 9, 3) := by decide +kernel
theorem dX8_copy_106 : decode cX8_copy 106 = .ok (.aload_n 0, 1) := by decide +kernel
theorem dX8_copy_107 : decode cX8_copy 107 = .ok (.iconst 0, 1) := by decide +kernel
theorem dX8_copy_108 : decode cX8_copy 108 = .ok (.invokevirtual 119, 3) := by decide +kernel
theorem dX8_copy_111 : decode cX8_copy 111 = .ok (.ireturn, 1) := by decide +kernel
theorem dX8_copy_112 : decode cX8_copy 112 = .ok (.iconst 0, 1) := by decide +kernel
theorem dX8_copy_113 : decode cX8_copy 113 = .ok (.istore 6, 2) := by decide +kernel
theorem dX8_copy_115 : decode cX8_copy 115 = .ok (.iload 6, 2) := by decide +kernel
theorem dX8_copy_117 : decode cX8_copy 117 = .ok (.iload 5, 2) := by decide +kernel
theorem dX8_copy_119 : decode cX8_copy 119 = .ok (.if_icmp .ge 30, 3) := by decide +kernel
theorem dX8_copy_122 : decode cX8_copy 122 = .ok (.aload_n 0, 1) := by decide +kernel
theorem dX8_copy_123 : decode cX8_copy 123 = .ok (.getfield 54, 3) := by decide +kernel
theorem dX8_copy_126 : decode cX8_copy 126 = .ok (.iload 6, 2) := by decide +kernel
theorem dX8_copy_128 : decode cX8_copy 128 = .ok (.aload_n 0, 1) := by decide +kernel
theorem dX8_copy_129 : decode cX8_copy 129 = .ok (.getfield 51, 3) := by decide +kernel
theorem dX8_copy_132 : decode cX8_copy 132 = .ok (.bipush 40, 2) := by decide +kernel
theorem dX8_copy_134 : decode cX8_copy 134 = .ok (.iload_n 1, 1) := by decide +kernel
theorem dX8_copy_135 : decode cX8_copy 135 = .ok (.imul, 1) := by decide +kernel
theorem dX8_copy_136 : decode cX8_copy 136 = .ok (.iload_n 2, 1) := by decide +kernel
theorem dX8_copy_137 : decode cX8_copy 137 = .ok (.iadd, 1) := by decide +kernel
theorem dX8_copy_138 : decode cX8_copy 138 = .ok (.iload 6, 2) := by decide +kernel
theorem dX8_copy_140 : decode cX8_copy 140 = .ok (.iadd, 1) := by decide +kernel
theorem dX8_copy_141 : decode cX8_copy 141 = .ok (.iaload, 1) := by decide +kernel
theorem dX8_copy_142 : decode cX8_copy 142 = .ok (.iastore, 1) := by decide +kernel
theorem dX8_copy_143 : decode cX8_copy 143 = .ok (.iinc 6 1, 3) := by decide +kernel
theorem dX8_copy_146 : decode cX8_copy 146 = .ok (.goto (-31), 3) := by decide +kernel
theorem dX8_copy_149 : decode cX8_copy 149 = .ok (.iconst 0, 1) := by decide +kernel
theorem dX8_copy_150 : decode cX8_copy 150 = .ok (.istore 6, 2) := by decide +kernel
theorem dX8_copy_152 : decode cX8_copy 152 = .ok (.iload 6, 2) := by decide +kernel
theorem dX8_copy_154 : decode cX8_copy 154 = .ok (.iload 5, 2) := by decide +kernel
theorem dX8_copy_156 : decode cX8_copy 156 = .ok (.if_icmp .ge 31, 3) := by decide +kernel
theorem dX8_copy_159 : decode cX8_copy 159 = .ok (.aload_n 0, 1) := by decide +kernel
theorem dX8_copy_160 : decode cX8_copy 160 = .ok (.getfield 51, 3) := by decide +kernel
theorem dX8_copy_163 : decode cX8_copy 163 = .ok (.bipush 40, 2) := by decide +kernel
theorem dX8_copy_165 : decode cX8_copy 165 = .ok (.iload_n 3, 1) := by decide +kernel
theorem dX8_copy_166 : decode cX8_copy 166 = .ok (.imul, 1) := by decide +kernel
theorem dX8_copy_167 : decode cX8_copy 167 = .ok (.iload 4, 2) := by decide +kernel
theorem dX8_copy_169 : decode cX8_copy 169 = .ok (.iadd, 1) := by decide +kernel
theorem dX8_copy_170 : decode cX8_copy 170 = .ok (.iload 6, 2) := by decide +kernel
theorem dX8_copy_172 : decode cX8_copy 172 = .ok (.iadd, 1) := by decide +kernel
theorem dX8_copy_173 : decode cX8_copy 173 = .ok (.aload_n 0, 1) := by decide +kernel
theorem dX8_copy_174 : decode cX8_copy 174 = .ok (.getfield 54, 3) := by decide +kernel
theorem dX8_copy_177 : decode cX8_copy 177 = .ok (.iload 6, 2) := by decide +kernel
theorem dX8_copy_179 : decode cX8_copy 179 = .ok (.iaload, 1) := by decide +kernel
theorem dX8_copy_180 : decode cX8_copy 180 = .ok (.iastore, 1) := by decide +kernel
theorem dX8_copy_181 : decode cX8_copy 181 = .ok (.iinc 6 1, 3) := by decide +kernel
theorem dX8_copy_184 : decode cX8_copy 184 = .ok (.goto (-32), 3) := by decide +kernel
theorem dX8_copy_187 : decode cX8_copy 187 = .ok (.iload 5, 2) := by decide +kernel
theorem dX8_copy_189 : decode cX8_copy 189 = .ok (.ireturn, 1) := by decide +kernel
theorem dX8_load_0 : decode cX8_load 0 = .ok (.aload_n 0, 1) := by decide +kernel
theorem dX8_load_1 : decode cX8_load 1 = .ok (.iload_n 1, 1) := by decide +kernel
theorem dX8_load_2 : decode cX8_load 2 = .ok (.invokevirtual 188, 3) := by decide +kernel
theorem dX8_load_5 : decode cX8_load 5 = .ok (.istore_n 2, 1) := by decide +kernel
theorem dX8_load_6 : decode cX8_load 6 = .ok (.iload_n 2, 1) := by decide +kernel
theorem dX8_load_7 : decode cX8_load 7 = .ok (.ifCond .lt 9, 3) := by decide +kernel
theorem dX8_load_10 : decode cX8_load 10 = .ok (.aload_n 0, 1) := by decide +kernel
theorem dX8_load_11 : decode cX8_load 11 = .ok (.iload_n 2, 1) := by decide +kernel
theorem dX8_load_12 : decode cX8_load 12 = .ok (.invokevirtual 119, 3) := by decide +kernel
theorem dX8_load_15 : decode cX8_load 15 = .ok (.ireturn, 1) := by decide +kernel
theorem dX8_load_16 : decode cX8_load 16 = .ok (.iconst 0, 1) := by decide +kernel
theorem dX8_load_17 : decode cX8_load 17 = .ok (.istore_n 3, 1) := by decide +kernel
theorem dX8_load_18 : decode cX8_load 18 = .ok (.iload_n 3, 1) := by decide +kernel
theorem dX8_load_19 : decode cX8_load 19 = .ok (.aload_n 0, 1) := by decide +kernel
theorem dX8_load_20 : decode cX8_load 20 = .ok (.getfield 48, 3) := by decide +kernel
theorem dX8_load_23 : decode cX8_load 23 = .ok (.iload_n 1, 1) := by decide +kernel
theorem dX8_load_24 : decode cX8_load 24 = .ok (.iaload, 1) := by decide +kernel
theorem dX8_load_25 : decode cX8_load 25 = .ok (.if_icmp .ge 61, 3) := by decide +kernel
theorem dX8_load_28 : decode cX8_load 28 = .ok (.iload_n 3, 1) := by decide +kernel
theorem dX8_load_29 : decode cX8_load 29 = .ok (.invokestatic 128, 3) := by decide +kernel
theorem dX8_load_32 : decode cX8_load 32 = .ok (.ifCond .eq 54, 3) := by decide +kernel
theorem dX8_load_35 : decode cX8_load 35 = .ok (.aload_n 0, 1) := by decide +kernel
theorem dX8_load_36 : decode cX8_load 36 = .ok (.getfield 51, 3) := by decide +kernel
theorem dX8_load_39 : decode cX8_load 39 = .ok (.bipush 40, 2) := by decide +kernel
theorem dX8_load_41 : decode cX8_load 41 = .ok (.iload_n 1, 1) := by decide +kernel
theorem dX8_load_42 : decode cX8_load 42 = .ok (.imul, 1) := by decide +kernel
theorem dX8_load_43 : decode cX8_load 43 = .ok (.iload_n 3, 1) := by decide +kernel
theorem dX8_load_44 : decode cX8_load 44 = .ok (.iadd, 1) := by decide +kernel
theorem dX8_load_45 : decode cX8_load 45 = .ok (.iaload, 1) := by decide +kernel
theorem dX8_load_46 : decode cX8_load 46 = .ok (.iconst 0, 1) := by decide +kernel
theorem dX8_load_47 : decode cX8_load 47 = .ok (.sipush 999, 3) := by decide +kernel
theorem dX8_load_50 : decode cX8_load 50 = .ok (.invokestatic 59, 3) := by decide +kernel
theorem dX8_load_53 : decode cX8_load 53 = .ok (.ifCond .eq 33, 3) := by decide +kernel
theorem dX8_load_56 : decode cX8_load 56 = .ok (.aload_n 0, 1) := by decide +kernel
theorem dX8_load_57 : decode cX8_load 57 = .ok (.getfield 9, 3) := by decide +kernel
theorem dX8_load_60 : decode cX8_load 60 = .ok (.bipush 59, 2) := by decide +kernel
theorem dX8_load_62 : decode cX8_load 62 = .ok (.iconst 4, 1) := by decide +kernel
theorem dX8_load_63 : decode cX8_load 63 = .ok (.iload_n 3, 1) := by decide +kernel
theorem dX8_load_64 : decode cX8_load 64 = .ok (.imul, 1) := by decide +kernel
theorem dX8_load_65 : decode cX8_load 65 = .ok (.iadd, 1) := by decide +kernel
theorem dX8_load_66 : decode cX8_load 66 = .ok (.iconst 0, 1) := by decide +kernel
theorem dX8_load_67 : decode cX8_load 67 = .ok (.iadd, 1) := by decide +kernel
theorem dX8_load_68 : decode cX8_load 68 = .ok (.aload_n 0, 1) := by decide +kernel
theorem dX8_load_69 : decode cX8_load 69 = .ok (.getfield 51, 3) := by decide +kernel
theorem dX8_load_72 : decode cX8_load 72 = .ok (.bipush 40, 2) := by decide +kernel
theorem dX8_load_74 : decode cX8_load 74 = .ok (.iload_n 1, 1) := by decide +kernel
theorem dX8_load_75 : decode cX8_load 75 = .ok (.imul, 1) := by decide +kernel
theorem dX8_load_76 : decode cX8_load 76 = .ok (.iload_n 3, 1) := by decide +kernel
theorem dX8_load_77 : decode cX8_load 77 = .ok (.iadd, 1) := by decide +kernel
theorem dX8_load_78 : decode cX8_load 78 = .ok (.iaload, 1) := by decide +kernel
theorem dX8_load_79 : decode cX8_load 79 = .ok (.iastore, 1) := by decide +kernel
theorem dX8_load_80 : decode cX8_load 80 = .ok (.iinc 3 1, 3) := by decide +kernel
theorem dX8_load_83 : decode cX8_load 83 = .ok (.goto (-65), 3) := by decide +kernel
theorem dX8_load_86 : decode cX8_load 86 = .ok (.iload_n 3, 1) := by decide +kernel
theorem dX8_load_87 : decode cX8_load 87 = .ok (.ireturn, 1) := by decide +kernel
theorem dX8_judge_0 : decode cX8_judge 0 = .ok (.aload_n 0, 1) := by decide +kernel
theorem dX8_judge_1 : decode cX8_judge 1 = .ok (.iload_n 1, 1) := by decide +kernel
theorem dX8_judge_2 : decode cX8_judge 2 = .ok (.invokevirtual 188, 3) := by decide +kernel
theorem dX8_judge_5 : decode cX8_judge 5 = .ok (.istore_n 2, 1) := by decide +kernel
theorem dX8_judge_6 : decode cX8_judge 6 = .ok (.iload_n 2, 1) := by decide +kernel
theorem dX8_judge_7 : decode cX8_judge 7 = .ok (.ifCond .lt 9, 3) := by decide +kernel
theorem dX8_judge_10 : decode cX8_judge 10 = .ok (.aload_n 0, 1) := by decide +kernel
theorem dX8_judge_11 : decode cX8_judge 11 = .ok (.iload_n 2, 1) := by decide +kernel
theorem dX8_judge_12 : decode cX8_judge 12 = .ok (.invokevirtual 119, 3) := by decide +kernel
theorem dX8_judge_15 : decode cX8_judge 15 = .ok (.ireturn, 1) := by decide +kernel
theorem dX8_judge_16 : decode cX8_judge 16 = .ok (.iconst 0, 1) := by decide +kernel
theorem dX8_judge_17 : decode cX8_judge 17 = .ok (.istore_n 3, 1) := by decide +kernel
theorem dX8_judge_18 : decode cX8_judge 18 = .ok (.iconst 0, 1) := by decide +kernel
theorem dX8_judge_19 : decode cX8_judge 19 = .ok (.istore 4, 2) := by decide +kernel
theorem dX8_judge_21 : decode cX8_judge 21 = .ok (.iconst 0, 1) := by decide +kernel
theorem dX8_judge_22 : decode cX8_judge 22 = .ok (.istore 5, 2) := by decide +kernel
theorem dX8_judge_24 : decode cX8_judge 24 = .ok (.iload 5, 2) := by decide +kernel
theorem dX8_judge_26 : decode cX8_judge 26 = .ok (.aload_n 0, 1) := by decide +kernel
theorem dX8_judge_27 : decode cX8_judge 27 = .ok (.getfield 48, 3) := by decide +kernel
theorem dX8_judge_30 : decode cX8_judge 30 = .ok (.iload_n 1, 1) := by decide +kernel
theorem dX8_judge_31 : decode cX8_judge 31 = .ok (.iaload, 1) := by decide +kernel
theorem dX8_judge_32 : decode cX8_judge 32 = .ok (.if_icmp .ge 77, 3) := by decide +kernel
theorem dX8_judge_35 : decode cX8_judge 35 = .ok (.aload_n 0, 1) := by decide +kernel
theorem dX8_judge_36 : decode cX8_judge 36 = .ok (.getfield 51, 3) := by decide +kernel
theorem dX8_judge_39 : decode cX8_judge 39 = .ok (.bipush 40, 2) := by decide +kernel
theorem dX8_judge_41 : decode cX8_judge 41 = .ok (.iload_n 1, 1) := by decide +kernel
theorem dX8_judge_42 : decode cX8_judge 42 = .ok (.imul, 1) := by decide +kernel
theorem dX8_judge_43 : decode cX8_judge 43 = .ok (.iload 5, 2) := by decide +kernel
theorem dX8_judge_45 : decode cX8_judge 45 = .ok (.iadd, 1) := by decide +kernel
theorem dX8_judge_46 : decode cX8_judge 46 = .ok (.iaload, 1) := by decide +kernel
theorem dX8_judge_47 : decode cX8_judge 47 = .ok (.istore 6, 2) := by decide +kernel
theorem dX8_judge_49 : decode cX8_judge 49 = .ok (.aload_n 0, 1) := by decide +kernel
theorem dX8_judge_50 : decode cX8_judge 50 = .ok (.iload 6, 2) := by decide +kernel
theorem dX8_judge_52 : decode cX8_judge 52 = .ok (.invokevirtual 122, 3) := by decide +kernel
theorem dX8_judge_55 : decode cX8_judge 55 = .ok (.ifCond .eq 32, 3) := by decide +kernel
theorem dX8_judge_58 : decode cX8_judge 58 = .ok (.iload_n 3, 1) := by decide +kernel
theorem dX8_judge_59 : decode cX8_judge 59 = .ok (.iload 6, 2) := by decide +kernel
theorem dX8_judge_61 : decode cX8_judge 61 = .ok (.invokestatic 88, 3) := by decide +kernel
theorem dX8_judge_64 : decode cX8_judge 64 = .ok (.ifCond .ne 23, 3) := by decide +kernel
theorem dX8_judge_67 : decode cX8_judge 67 = .ok (.iload 5, 2) := by decide +kernel
theorem dX8_judge_69 : decode cX8_judge 69 = .ok (.ifCond .le 23, 3) := by decide +kernel
theorem dX8_judge_72 : decode cX8_judge 72 = .ok (.aload_n 0, 1) := by decide +kernel
theorem dX8_judge_73 : decode cX8_judge 73 = .ok (.iload 6, 2) := by decide +kernel
theorem dX8_judge_75 : decode cX8_judge 75 = .ok (.invokevirtual 92, 3) := by decide +kernel
theorem dX8_judge_78 : decode cX8_judge 78 = .ok (.aload_n 0, 1) := by decide +kernel
theorem dX8_judge_79 : decode cX8_judge 79 = .ok (.iload 4, 2) := by decide +kernel
theorem dX8_judge_81 : decode cX8_judge 81 = .ok (.invokevirtual 92, 3) := by decide +kernel
theorem dX8_judge_84 : decode cX8_judge 84 = .ok (.if_icmp .le 8, 3) := by decide +kernel
theorem dX8_judge_87 : decode cX8_judge 87 = .ok (.iconst 1, 1) := by decide +kernel
theorem dX8_judge_88 : decode cX8_judge 88 = .ok (.iload 5, 2) := by decide +kernel
theorem dX8_judge_90 : decode cX8_judge 90 = .ok (.iadd, 1) := by decide +kernel
theorem dX8_judge_91 : decode cX8_judge 91 = .ok (.ireturn, 1) := by decide +kernel
theorem dX8_judge_92 : decode cX8_judge 92 = .ok (.iload_n 3, 1) := by decide +kernel
theorem dX8_judge_93 : decode cX8_judge 93 = .ok (.iconst 1, 1) := by decide +kernel
theorem dX8_judge_94 : decode cX8_judge 94 = .ok (.iload 6, 2) := by decide +kernel
theorem dX8_judge_96 : decode cX8_judge 96 = .ok (.ishl, 1) := by decide +kernel
theorem dX8_judge_97 : decode cX8_judge 97 = .ok (.ior, 1) := by decide +kernel
theorem dX8_judge_98 : decode cX8_judge 98 = .ok (.istore_n 3, 1) := by decide +kernel
theorem dX8_judge_99 : decode cX8_judge 99 = .ok (.iload 6, 2) := by decide +kernel
theorem dX8_judge_101 : decode cX8_judge 101 = .ok (.istore 4, 2) := by decide +kernel
theorem dX8_judge_103 : decode cX8_judge 103 = .ok (.iinc 5 1, 3) := by decide +kernel
theorem dX8_judge_106 : decode cX8_judge 106 = .ok (.goto (-82), 3) := by decide +kernel
theorem dX8_judge_109 : decode cX8_judge 109 = .ok (.iconst 0, 1) := by decide +kernel
theorem dX8_judge_110 : decode cX8_judge 110 = .ok (.ireturn, 1) := by decide +kernel
theorem dX8_image_0 : decode cX8_image 0 = .ok (.iconst 0, 1) := by decide +kernel
theorem dX8_image_1 : decode cX8_image 1 = .ok (.istore_n 1, 1) := by decide +kernel
theorem dX8_image_2 : decode cX8_image 2 = .ok (.iload_n 1, 1) := by decide +kernel
theorem dX8_image_3 : decode cX8_image 3 = .ok (.bipush 93, 2) := by decide +kernel
theorem dX8_image_5 : decode cX8_image 5 = .ok (.if_icmp .ge 21, 3) := by decide +kernel
theorem dX8_image_8 : decode cX8_image 8 = .ok (.aload_n 0, 1) := by decide +kernel
theorem dX8_image_9 : decode cX8_image 9 = .ok (.getfield 13, 3) := by decide +kernel
theorem dX8_image_12 : decode cX8_image 12 = .ok (.iload_n 1, 1) := by decide +kernel
theorem dX8_image_13 : decode cX8_image 13 = .ok (.aload_n 0, 1) := by decide +kernel
theorem dX8_image_14 : decode cX8_image 14 = .ok (.getfield 9, 3) := by decide +kernel
theorem dX8_image_17 : decode cX8_image 17 = .ok (.iload_n 1, 1) := by decide +kernel
theorem dX8_image_18 : decode cX8_image 18 = .ok (.iaload, 1) := by decide +kernel
theorem dX8_image_19 : decode cX8_image 19 = .ok (.iastore, 1) := by decide +kernel
theorem dX8_image_20 : decode cX8_image 20 = .ok (.iinc 1 1, 3) := by decide +kernel
theorem dX8_image_23 : decode cX8_image 23 = .ok (.goto (-21), 3) := by decide +kernel
theorem dX8_image_26 : decode cX8_image 26 = .ok (.aload_n 0, 1) := by decide +kernel
theorem dX8_image_27 : decode cX8_image 27 = .ok (.iconst 1, 1) := by decide +kernel
theorem dX8_image_28 : decode cX8_image 28 = .ok (.putfield 269, 3) := by decide +kernel
theorem dX8_image_31 : decode cX8_image 31 = .ok (.iconst 1, 1) := by decide +kernel
theorem dX8_image_32 : decode cX8_image 32 = .ok (.ireturn, 1) := by decide +kernel
theorem dX8_undo_0 : decode cX8_undo 0 = .ok (.aload_n 0, 1) := by decide +kernel
theorem dX8_undo_1 : decode cX8_undo 1 = .ok (.getfield 269, 3) := by decide +kernel
theorem dX8_undo_4 : decode cX8_undo 4 = .ok (.ifCond .ne 9, 3) := by decide +kernel
theorem dX8_undo_7 : decode cX8_undo 7 = .ok (.aload_n 0, 1) := by decide +kernel
theorem dX8_undo_8 : decode cX8_undo 8 = .ok (.iconst 3, 1) := by decide +kernel
theorem dX8_undo_9 : decode cX8_undo 9 = .ok (.invokevirtual 119, 3) := by decide +kernel
theorem dX8_undo_12 : decode cX8_undo 12 = .ok (.ireturn, 1) := by decide +kernel
theorem dX8_undo_13 : decode cX8_undo 13 = .ok (.iconst 0, 1) := by decide +kernel
theorem dX8_undo_14 : decode cX8_undo 14 = .ok (.istore_n 1, 1) := by decide +kernel
theorem dX8_undo_15 : decode cX8_undo 15 = .ok (.iload_n 1, 1) := by decide +kernel
theorem dX8_undo_16 : decode cX8_undo 16 = .ok (.bipush 93, 2) := by decide +kernel
theorem dX8_undo_18 : decode cX8_undo 18 = .ok (.if_icmp .ge 21, 3) := by decide +kernel
theorem dX8_undo_21 : decode cX8_undo 21 = .ok (.aload_n 0, 1) := by decide +kernel
theorem dX8_undo_22 : decode cX8_undo 22 = .ok (.getfield 9, 3) := by decide +kernel
theorem dX8_undo_25 : decode cX8_undo 25 = .ok (.iload_n 1, 1) := by decide +kernel
theorem dX8_undo_26 : decode cX8_undo 26 = .ok (.aload_n 0, 1) := by decide +kernel
theorem dX8_undo_27 : decode cX8_undo 27 = .ok (.getfield 13, 3) := by decide +kernel
theorem dX8_undo_30 : decode cX8_undo 30 = .ok (.iload_n 1, 1) := by decide +kernel
theorem dX8_undo_31 : decode cX8_undo 31 = .ok (.iaload, 1) := by decide +kernel
theorem dX8_undo_32 : decode cX8_undo 32 = .ok (.iastore, 1) := by decide +kernel
theorem dX8_undo_33 : decode cX8_undo 33 = .ok (.iinc 1 1, 3) := by decide +kernel
theorem dX8_undo_36 : decode cX8_undo 36 = .ok (.goto (-21), 3) := by decide +kernel
theorem dX8_undo_39 : decode cX8_undo 39 = .ok (.aload_n 0, 1) := by decide +kernel
theorem dX8_undo_40 : decode cX8_undo 40 = .ok (.getfield 9, 3) := by decide +kernel
theorem dX8_undo_43 : decode cX8_undo 43 = .ok (.iconst 0, 1) := by decide +kernel
theorem dX8_undo_44 : decode cX8_undo 44 = .ok (.iaload, 1) := by decide +kernel
theorem dX8_undo_45 : decode cX8_undo 45 = .ok (.ireturn, 1) := by decide +kernel
theorem dX8_tear_0 : decode cX8_tear 0 = .ok (.aload_n 0, 1) := by decide +kernel
theorem dX8_tear_1 : decode cX8_tear 1 = .ok (.getfield 269, 3) := by decide +kernel
theorem dX8_tear_4 : decode cX8_tear 4 = .ok (.ifCond .eq 7, 3) := by decide +kernel
theorem dX8_tear_7 : decode cX8_tear 7 = .ok (.iconst 1, 1) := by decide +kernel
theorem dX8_tear_8 : decode cX8_tear 8 = .ok (.goto 4, 3) := by decide +kernel
theorem dX8_tear_11 : decode cX8_tear 11 = .ok (.iconst 0, 1) := by decide +kernel
theorem dX8_tear_12 : decode cX8_tear 12 = .ok (.istore_n 1, 1) := by decide +kernel
theorem dX8_tear_13 : decode cX8_tear 13 = .ok (.aload_n 0, 1) := by decide +kernel
theorem dX8_tear_14 : decode cX8_tear 14 = .ok (.iconst 0, 1) := by decide +kernel
theorem dX8_tear_15 : decode cX8_tear 15 = .ok (.putfield 269, 3) := by decide +kernel
theorem dX8_tear_18 : decode cX8_tear 18 = .ok (.iload_n 1, 1) := by decide +kernel
theorem dX8_tear_19 : decode cX8_tear 19 = .ok (.ireturn, 1) := by decide +kernel
theorem dX8_count_0 : decode cX8_count 0 = .ok (.iconst 0, 1) := by decide +kernel
theorem dX8_count_1 : decode cX8_count 1 = .ok (.istore_n 2, 1) := by decide +kernel
theorem dX8_count_2 : decode cX8_count 2 = .ok (.iload_n 1, 1) := by decide +kernel
theorem dX8_count_3 : decode cX8_count 3 = .ok (.tableswitch 128 0 7 #[45, 52, 60, 68, 75, 80, 85, 92], 45) := by decide +kernel
theorem dX8_count_48 : decode cX8_count 48 = .ok (.aload_n 0, 1) := by decide +kernel
theorem dX8_count_49 : decode cX8_count 49 = .ok (.getfield 9, 3) := by decide +kernel
theorem dX8_count_52 : decode cX8_count 52 = .ok (.iconst 0, 1) := by decide +kernel
theorem dX8_count_53 : decode cX8_count 53 = .ok (.iaload, 1) := by decide +kernel
theorem dX8_count_54 : decode cX8_count 54 = .ok (.ireturn, 1) := by decide +kernel
theorem dX8_count_55 : decode cX8_count 55 = .ok (.aload_n 0, 1) := by decide +kernel
theorem dX8_count_56 : decode cX8_count 56 = .ok (.invokevirtual 95, 3) := by decide +kernel
theorem dX8_count_59 : decode cX8_count 59 = .ok (.invokestatic 143, 3) := by decide +kernel
theorem dX8_count_62 : decode cX8_count 62 = .ok (.ireturn, 1) := by decide +kernel
theorem dX8_count_63 : decode cX8_count 63 = .ok (.aload_n 0, 1) := by decide +kernel
theorem dX8_count_64 : decode cX8_count 64 = .ok (.invokevirtual 149, 3) := by decide +kernel
theorem dX8_count_67 : decode cX8_count 67 = .ok (.invokestatic 143, 3) := by decide +kernel
theorem dX8_count_70 : decode cX8_count 70 = .ok (.ireturn, 1) := by decide +kernel
theorem dX8_count_71 : decode cX8_count 71 = .ok (.aload_n 0, 1) := by decide +kernel
theorem dX8_count_72 : decode cX8_count 72 = .ok (.getfield 9, 3) := by decide +kernel
theorem dX8_count_75 : decode cX8_count 75 = .ok (.iconst 1, 1) := by decide +kernel
theorem dX8_count_76 : decode cX8_count 76 = .ok (.iaload, 1) := by decide +kernel
theorem dX8_count_77 : decode cX8_count 77 = .ok (.ireturn, 1) := by decide +kernel
theorem dX8_count_78 : decode cX8_count 78 = .ok (.aload_n 0, 1) := by decide +kernel
theorem dX8_count_79 : decode cX8_count 79 = .ok (.invokevirtual 146, 3) := by decide +kernel
theorem dX8_count_82 : decode cX8_count 82 = .ok (.ireturn, 1) := by decide +kernel
theorem dX8_count_83 : decode cX8_count 83 = .ok (.aload_n 0, 1) := by decide +kernel
theorem dX8_count_84 : decode cX8_count 84 = .ok (.getfield 205, 3) := by decide +kernel
theorem dX8_count_87 : decode cX8_count 87 = .ok (.ireturn, 1) := by decide +kernel
theorem dX8_count_88 : decode cX8_count 88 = .ok (.aload_n 0, 1) := by decide +kernel
theorem dX8_count_89 : decode cX8_count 89 = .ok (.getfield 9, 3) := by decide +kernel
theorem dX8_count_92 : decode cX8_count 92 = .ok (.iconst 2, 1) := by decide +kernel
theorem dX8_count_93 : decode cX8_count 93 = .ok (.iaload, 1) := by decide +kernel
theorem dX8_count_94 : decode cX8_count 94 = .ok (.ireturn, 1) := by decide +kernel
theorem dX8_count_95 : decode cX8_count 95 = .ok (.iconst 0, 1) := by decide +kernel
theorem dX8_count_96 : decode cX8_count 96 = .ok (.istore_n 3, 1) := by decide +kernel
theorem dX8_count_97 : decode cX8_count 97 = .ok (.iload_n 3, 1) := by decide +kernel
theorem dX8_count_98 : decode cX8_count 98 = .ok (.bipush 10, 2) := by decide +kernel
theorem dX8_count_100 : decode cX8_count 100 = .ok (.if_icmp .ge 29, 3) := by decide +kernel
theorem dX8_count_103 : decode cX8_count 103 = .ok (.iload_n 2, 1) := by decide +kernel
theorem dX8_count_104 : decode cX8_count 104 = .ok (.aload_n 0, 1) := by decide +kernel
theorem dX8_count_105 : decode cX8_count 105 = .ok (.getfield 9, 3) := by decide +kernel
theorem dX8_count_108 : decode cX8_count 108 = .ok (.bipush 83, 2) := by decide +kernel
theorem dX8_count_110 : decode cX8_count 110 = .ok (.iload_n 3, 1) := by decide +kernel
theorem dX8_count_111 : decode cX8_count 111 = .ok (.iadd, 1) := by decide +kernel
theorem dX8_count_112 : decode cX8_count 112 = .ok (.iaload, 1) := by decide +kernel
theorem dX8_count_113 : decode cX8_count 113 = .ok (.ifCond .lt 7, 3) := by decide +kernel
theorem dX8_count_116 : decode cX8_count 116 = .ok (.iconst 1, 1) := by decide +kernel
theorem dX8_count_117 : decode cX8_count 117 = .ok (.goto 4, 3) := by decide +kernel
theorem dX8_count_120 : decode cX8_count 120 = .ok (.iconst 0, 1) := by decide +kernel
theorem dX8_count_121 : decode cX8_count 121 = .ok (.iadd, 1) := by decide +kernel
theorem dX8_count_122 : decode cX8_count 122 = .ok (.istore_n 2, 1) := by decide +kernel
theorem dX8_count_123 : decode cX8_count 123 = .ok (.iinc 3 1, 3) := by decide +kernel
theorem dX8_count_126 : decode cX8_count 126 = .ok (.goto (-29), 3) := by decide +kernel
theorem dX8_count_129 : decode cX8_count 129 = .ok (.iload_n 2, 1) := by decide +kernel
theorem dX8_count_130 : decode cX8_count 130 = .ok (.ireturn, 1) := by decide +kernel
theorem dX8_count_131 : decode cX8_count 131 = .ok (.aload_n 0, 1) := by decide +kernel
theorem dX8_count_132 : decode cX8_count 132 = .ok (.iconst 0, 1) := by decide +kernel
theorem dX8_count_133 : decode cX8_count 133 = .ok (.invokevirtual 119, 3) := by decide +kernel
theorem dX8_count_136 : decode cX8_count 136 = .ok (.ireturn, 1) := by decide +kernel
theorem dX8_status_0 : decode cX8_status 0 = .ok (.iload_n 1, 1) := by decide +kernel
theorem dX8_status_1 : decode cX8_status 1 = .ok (.iconst (-1), 1) := by decide +kernel
theorem dX8_status_2 : decode cX8_status 2 = .ok (.bipush 6, 2) := by decide +kernel
theorem dX8_status_4 : decode cX8_status 4 = .ok (.invokestatic 59, 3) := by decide +kernel
theorem dX8_status_7 : decode cX8_status 7 = .ok (.ifCond .ne 9, 3) := by decide +kernel
theorem dX8_status_10 : decode cX8_status 10 = .ok (.aload_n 0, 1) := by decide +kernel
theorem dX8_status_11 : decode cX8_status 11 = .ok (.iconst 0, 1) := by decide +kernel
theorem dX8_status_12 : decode cX8_status 12 = .ok (.invokevirtual 119, 3) := by decide +kernel
theorem dX8_status_15 : decode cX8_status 15 = .ok (.ireturn, 1) := by decide +kernel
theorem dX8_status_16 : decode cX8_status 16 = .ok (.iconst 0, 1) := by decide +kernel
theorem dX8_status_17 : decode cX8_status 17 = .ok (.istore_n 2, 1) := by decide +kernel
theorem dX8_status_18 : decode cX8_status 18 = .ok (.iconst 0, 1) := by decide +kernel
theorem dX8_status_19 : decode cX8_status 19 = .ok (.istore_n 3, 1) := by decide +kernel
theorem dX8_status_20 : decode cX8_status 20 = .ok (.iload_n 3, 1) := by decide +kernel
theorem dX8_status_21 : decode cX8_status 21 = .ok (.bipush 7, 2) := by decide +kernel
theorem dX8_status_23 : decode cX8_status 23 = .ok (.if_icmp .ge 32, 3) := by decide +kernel
theorem dX8_status_26 : decode cX8_status 26 = .ok (.iload_n 2, 1) := by decide +kernel
theorem dX8_status_27 : decode cX8_status 27 = .ok (.iload_n 1, 1) := by decide +kernel
theorem dX8_status_28 : decode cX8_status 28 = .ok (.iconst (-1), 1) := by decide +kernel
theorem dX8_status_29 : decode cX8_status 29 = .ok (.if_icmp .eq 8, 3) := by decide +kernel
theorem dX8_status_32 : decode cX8_status 32 = .ok (.iload_n 1, 1) := by decide +kernel
theorem dX8_status_33 : decode cX8_status 33 = .ok (.iload_n 3, 1) := by decide +kernel
theorem dX8_status_34 : decode cX8_status 34 = .ok (.if_icmp .ne 12, 3) := by decide +kernel
theorem dX8_status_37 : decode cX8_status 37 = .ok (.aload_n 0, 1) := by decide +kernel
theorem dX8_status_38 : decode cX8_status 38 = .ok (.getfield 19, 3) := by decide +kernel
theorem dX8_status_41 : decode cX8_status 41 = .ok (.iload_n 3, 1) := by decide +kernel
theorem dX8_status_42 : decode cX8_status 42 = .ok (.iaload, 1) := by decide +kernel
theorem dX8_status_43 : decode cX8_status 43 = .ok (.goto 4, 3) := by decide +kernel
theorem dX8_status_46 : decode cX8_status 46 = .ok (.iconst 0, 1) := by decide +kernel
theorem dX8_status_47 : decode cX8_status 47 = .ok (.iadd, 1) := by decide +kernel
theorem dX8_status_48 : decode cX8_status 48 = .ok (.istore_n 2, 1) := by decide +kernel
theorem dX8_status_49 : decode cX8_status 49 = .ok (.iinc 3 1, 3) := by decide +kernel
theorem dX8_status_52 : decode cX8_status 52 = .ok (.goto (-32), 3) := by decide +kernel
theorem dX8_status_55 : decode cX8_status 55 = .ok (.iload_n 2, 1) := by decide +kernel
theorem dX8_status_56 : decode cX8_status 56 = .ok (.ireturn, 1) := by decide +kernel
