theorem dX11_init_0 : decode cX11_init 0 = .ok (.aload_n 0, 1) := by decide +kernel
theorem dX11_init_1 : decode cX11_init 1 = .ok (.invokespecial 1, 3) := by decide +kernel
theorem dX11_init_4 : decode cX11_init 4 = .ok (.aload_n 0, 1) := by decide +kernel
theorem dX11_init_5 : decode cX11_init 5 = .ok (.bipush 72, 2) := by decide +kernel
theorem dX11_init_7 : decode cX11_init 7 = .ok (.newarray .int, 2) := by decide +kernel
theorem dX11_init_9 : decode cX11_init 9 = .ok (.putfield 7, 3) := by decide +kernel
theorem dX11_init_12 : decode cX11_init 12 = .ok (.aload_n 0, 1) := by decide +kernel
theorem dX11_init_13 : decode cX11_init 13 = .ok (.iconst 5, 1) := by decide +kernel
theorem dX11_init_14 : decode cX11_init 14 = .ok (.newarray .int, 2) := by decide +kernel
theorem dX11_init_16 : decode cX11_init 16 = .ok (.putfield 13, 3) := by decide +kernel
theorem dX11_init_19 : decode cX11_init 19 = .ok (.aload_n 0, 1) := by decide +kernel
theorem dX11_init_20 : decode cX11_init 20 = .ok (.iconst 5, 1) := by decide +kernel
theorem dX11_init_21 : decode cX11_init 21 = .ok (.newarray .int, 2) := by decide +kernel
theorem dX11_init_23 : decode cX11_init 23 = .ok (.putfield 16, 3) := by decide +kernel
theorem dX11_init_26 : decode cX11_init 26 = .ok (.aload_n 0, 1) := by decide +kernel
theorem dX11_init_27 : decode cX11_init 27 = .ok (.bipush 15, 2) := by decide +kernel
theorem dX11_init_29 : decode cX11_init 29 = .ok (.newarray .int, 2) := by decide +kernel
theorem dX11_init_31 : decode cX11_init 31 = .ok (.putfield 19, 3) := by decide +kernel
theorem dX11_init_34 : decode cX11_init 34 = .ok (.aload_n 0, 1) := by decide +kernel
theorem dX11_init_35 : decode cX11_init 35 = .ok (.sipush 160, 3) := by decide +kernel
theorem dX11_init_38 : decode cX11_init 38 = .ok (.newarray .int, 2) := by decide +kernel
theorem dX11_init_40 : decode cX11_init 40 = .ok (.putfield 22, 3) := by decide +kernel
theorem dX11_init_43 : decode cX11_init 43 = .ok (.aload_n 0, 1) := by decide +kernel
theorem dX11_init_44 : decode cX11_init 44 = .ok (.sipush 1200, 3) := by decide +kernel
theorem dX11_init_47 : decode cX11_init 47 = .ok (.newarray .int, 2) := by decide +kernel
theorem dX11_init_49 : decode cX11_init 49 = .ok (.putfield 25, 3) := by decide +kernel
theorem dX11_init_52 : decode cX11_init 52 = .ok (.aload_n 0, 1) := by decide +kernel
theorem dX11_init_53 : decode cX11_init 53 = .ok (.bipush 24, 2) := by decide +kernel
theorem dX11_init_55 : decode cX11_init 55 = .ok (.newarray .int, 2) := by decide +kernel
theorem dX11_init_57 : decode cX11_init 57 = .ok (.putfield 28, 3) := by decide +kernel
theorem dX11_init_60 : decode cX11_init 60 = .ok (.aload_n 0, 1) := by decide +kernel
theorem dX11_init_61 : decode cX11_init 61 = .ok (.bipush 72, 2) := by decide +kernel
theorem dX11_init_63 : decode cX11_init 63 = .ok (.newarray .int, 2) := by decide +kernel
theorem dX11_init_65 : decode cX11_init 65 = .ok (.putfield 31, 3) := by decide +kernel
theorem dX11_init_68 : decode cX11_init 68 = .ok (.aload_n 0, 1) := by decide +kernel
theorem dX11_init_69 : decode cX11_init 69 = .ok (.bipush 15, 2) := by decide +kernel
theorem dX11_init_71 : decode cX11_init 71 = .ok (.newarray .int, 2) := by decide +kernel
theorem dX11_init_73 : decode cX11_init 73 = .ok (.putfield 34, 3) := by decide +kernel
theorem dX11_init_76 : decode cX11_init 76 = .ok (.aload_n 0, 1) := by decide +kernel
theorem dX11_init_77 : decode cX11_init 77 = .ok (.iconst 4, 1) := by decide +kernel
theorem dX11_init_78 : decode cX11_init 78 = .ok (.newarray .int, 2) := by decide +kernel
theorem dX11_init_80 : decode cX11_init 80 = .ok (.putfield 37, 3) := by decide +kernel
theorem dX11_init_83 : decode cX11_init 83 = .ok (.aload_n 0, 1) := by decide +kernel
theorem dX11_init_84 : decode cX11_init 84 = .ok (.iconst 4, 1) := by decide +kernel
theorem dX11_init_85 : decode cX11_init 85 = .ok (.newarray .int, 2) := by decide +kernel
theorem dX11_init_87 : decode cX11_init 87 = .ok (.dup, 1) := by decide +kernel
theorem dX11_init_88 : decode cX11_init 88 = .ok (.iconst 0, 1) := by decide +kernel
theorem dX11_init_89 : decode cX11_init 89 = .ok (.iconst (-1), 1) := by decide +kernel
theorem dX11_init_90 : decode cX11_init 90 = .ok (.iastore, 1) := by decide +kernel
theorem dX11_init_91 : decode cX11_init 91 = .ok (.dup, 1) := by decide +kernel
theorem dX11_init_92 : decode cX11_init 92 = .ok (.iconst 1, 1) := by decide +kernel
theorem dX11_init_93 : decode cX11_init 93 = .ok (.iconst (-1), 1) := by decide +kernel
theorem dX11_init_94 : decode cX11_init 94 = .ok (.iastore, 1) := by decide +kernel
theorem dX11_init_95 : decode cX11_init 95 = .ok (.dup, 1) := by decide +kernel
theorem dX11_init_96 : decode cX11_init 96 = .ok (.iconst 2, 1) := by decide +kernel
theorem dX11_init_97 : decode cX11_init 97 = .ok (.iconst (-1), 1) := by decide +kernel
theorem dX11_init_98 : decode cX11_init 98 = .ok (.iastore, 1) := by decide +kernel
theorem dX11_init_99 : decode cX11_init 99 = .ok (.dup, 1) := by decide +kernel
theorem dX11_init_100 : decode cX11_init 100 = .ok (.iconst 3, 1) := by decide +kernel
theorem dX11_init_101 : decode cX11_init 101 = .ok (.iconst (-1), 1) := by decide +kernel
theorem dX11_init_102 : decode cX11_init 102 = .ok (.iastore, 1) := by decide +kernel
theorem dX11_init_103 : decode cX11_init 103 = .ok (.putfield 40, 3) := by decide +kernel
theorem dX11_init_106 : decode cX11_init 106 = .ok (.aload_n 0, 1) := by decide +kernel
theorem dX11_init_107 : decode cX11_init 107 = .ok (.iconst 4, 1) := by decide +kernel
theorem dX11_init_108 : decode cX11_init 108 = .ok (.newarray .int, 2) := by decide +kernel
theorem dX11_init_110 : decode cX11_init 110 = .ok (.putfield 43, 3) := by decide +kernel
theorem dX11_init_113 : decode cX11_init 113 = .ok (.aload_n 0, 1) := by decide +kernel
theorem dX11_init_114 : decode cX11_init 114 = .ok (.sipush 160, 3) := by decide +kernel
theorem dX11_init_117 : decode cX11_init 117 = .ok (.newarray .int, 2) := by decide +kernel
theorem dX11_init_119 : decode cX11_init 119 = .ok (.putfield 46, 3) := by decide +kernel
theorem dX11_init_122 : decode cX11_init 122 = .ok (.aload_n 0, 1) := by decide +kernel
theorem dX11_init_123 : decode cX11_init 123 = .ok (.bipush 40, 2) := by decide +kernel
theorem dX11_init_125 : decode cX11_init 125 = .ok (.newarray .int, 2) := by decide +kernel
theorem dX11_init_127 : decode cX11_init 127 = .ok (.dup, 1) := by decide +kernel
theorem dX11_init_128 : decode cX11_init 128 = .ok (.iconst 0, 1) := by decide +kernel
theorem dX11_init_129 : decode cX11_init 129 = .ok (.bipush 112, 2) := by decide +kernel
theorem dX11_init_131 : decode cX11_init 131 = .ok (.iastore, 1) := by decide +kernel
theorem dX11_init_132 : decode cX11_init 132 = .ok (.dup, 1) := by decide +kernel
theorem dX11_init_133 : decode cX11_init 133 = .ok (.iconst 1, 1) := by decide +kernel
theorem dX11_init_134 : decode cX11_init 134 = .ok (.bipush 97, 2) := by decide +kernel
theorem dX11_init_136 : decode cX11_init 136 = .ok (.iastore, 1) := by decide +kernel
theorem dX11_init_137 : decode cX11_init 137 = .ok (.dup, 1) := by decide +kernel
theorem dX11_init_138 : decode cX11_init 138 = .ok (.iconst 2, 1) := by decide +kernel
theorem dX11_init_139 : decode cX11_init 139 = .ok (.bipush 121, 2) := by decide +kernel
theorem dX11_init_141 : decode cX11_init 141 = .ok (.iastore, 1) := by decide +kernel
theorem dX11_init_142 : decode cX11_init 142 = .ok (.dup, 1) := by decide +kernel
theorem dX11_init_143 : decode cX11_init 143 = .ok (.iconst 3, 1) := by decide +kernel
theorem dX11_init_144 : decode cX11_init 144 = .ok (.bipush 115, 2) := by decide +kernel
theorem dX11_init_146 : decode cX11_init 146 = .ok (.iastore, 1) := by decide +kernel
theorem dX11_init_147 : decode cX11_init 147 = .ok (.dup, 1) := by decide +kernel
theorem dX11_init_148 : decode cX11_init 148 = .ok (.iconst 4, 1) := by decide +kernel
theorem dX11_init_149 : decode cX11_init 149 = .ok (.bipush 32, 2) := by decide +kernel
theorem dX11_init_151 : decode cX11_init 151 = .ok (.iastore, 1) := by decide +kernel
theorem dX11_init_152 : decode cX11_init 152 = .ok (.dup, 1) := by decide +kernel
theorem dX11_init_153 : decode cX11_init 153 = .ok (.iconst 5, 1) := by decide +kernel
theorem dX11_init_154 : decode cX11_init 154 = .ok (.bipush 99, 2) := by decide +kernel
theorem dX11_init_156 : decode cX11_init 156 = .ok (.iastore, 1) := by decide +kernel
theorem dX11_init_157 : decode cX11_init 157 = .ok (.dup, 1) := by decide +kernel
theorem dX11_init_158 : decode cX11_init 158 = .ok (.bipush 6, 2) := by decide +kernel
theorem dX11_init_160 : decode cX11_init 160 = .ok (.bipush 101, 2) := by decide +kernel
theorem dX11_init_162 : decode cX11_init 162 = .ok (.iastore, 1) := by decide +kernel
theorem dX11_init_163 : decode cX11_init 163 = .ok (.dup, 1) := by decide +kernel
theorem dX11_init_164 : decode cX11_init 164 = .ok (.bipush 7, 2) := by decide +kernel
theorem dX11_init_166 : decode cX11_init 166 = .ok (.bipush 108, 2) := by decide +kernel
theorem dX11_init_168 : decode cX11_init 168 = .ok (.iastore, 1) := by decide +kernel
theorem dX11_init_169 : decode cX11_init 169 = .ok (.dup, 1) := by decide +kernel
theorem dX11_init_170 : decode cX11_init 170 = .ok (.bipush 8, 2) := by decide +kernel
theorem dX11_init_172 : decode cX11_init 172 = .ok (.bipush 108, 2) := by decide +kernel
theorem dX11_init_174 : decode cX11_init 174 = .ok (.iastore, 1) := by decide +kernel
theorem dX11_init_175 : decode cX11_init 175 = .ok (.dup, 1) := by decide +kernel
theorem dX11_init_176 : decode cX11_init 176 = .ok (.bipush 9, 2) := by decide +kernel
theorem dX11_init_178 : decode cX11_init 178 = .ok (.bipush 115, 2) := by decide +kernel
theorem dX11_init_180 : decode cX11_init 180 = .ok (.iastore, 1) := by decide +kernel
theorem dX11_init_181 : decode cX11_init 181 = .ok (.dup, 1) := by decide +kernel
theorem dX11_init_182 : decode cX11_init 182 = .ok (.bipush 10, 2) := by decide +kernel
theorem dX11_init_184 : decode cX11_init 184 = .ok (.bipush 32, 2) := by decide +kernel
theorem dX11_init_186 : decode cX11_init 186 = .ok (.iastore, 1) := by decide +kernel
theorem dX11_init_187 : decode cX11_init 187 = .ok (.dup, 1) := by decide +kernel
theorem dX11_init_188 : decode cX11_init 188 = .ok (.bipush 11, 2) := by decide +kernel
theorem dX11_init_190 : decode cX11_init 190 = .ok (.bipush 42, 2) := by decide +kernel
theorem dX11_init_192 : decode cX11_init 192 = .ok (.iastore, 1) := by decide +kernel
theorem dX11_init_193 : decode cX11_init 193 = .ok (.dup, 1) := by decide +kernel
theorem dX11_init_194 : decode cX11_init 194 = .ok (.bipush 12, 2) := by decide +kernel
theorem dX11_init_196 : decode cX11_init 196 = .ok (.bipush 32, 2) := by decide +kernel
theorem dX11_init_198 : decode cX11_init 198 = .ok (.iastore, 1) := by decide +kernel
theorem dX11_init_199 : decode cX11_init 199 = .ok (.dup, 1) := by decide +kernel
theorem dX11_init_200 : decode cX11_init 200 = .ok (.bipush 13, 2) := by decide +kernel
theorem dX11_init_202 : decode cX11_init 202 = .ok (.bipush 50, 2) := by decide +kernel
theorem dX11_init_204 : decode cX11_init 204 = .ok (.iastore, 1) := by decide +kernel
theorem dX11_init_205 : decode cX11_init 205 = .ok (.dup, 1) := by decide +kernel
theorem dX11_init_206 : decode cX11_init 206 = .ok (.bipush 14, 2) := by decide +kernel
theorem dX11_init_208 : decode cX11_init 208 = .ok (.bipush 32, 2) := by decide +kernel
theorem dX11_init_210 : decode cX11_init 210 = .ok (.iastore, 1) := by decide +kernel
theorem dX11_init_211 : decode cX11_init 211 = .ok (.dup, 1) := by decide +kernel
theorem dX11_init_212 : decode cX11_init 212 = .ok (.bipush 15, 2) := by decide +kernel
theorem dX11_init_214 : decode cX11_init 214 = .ok (.bipush 59, 2) := by decide +kernel
theorem dX11_init_216 : decode cX11_init 216 = .ok (.iastore, 1) := by decide +kernel
theorem dX11_init_217 : decode cX11_init 217 = .ok (.dup, 1) := by decide +kernel
theorem dX11_init_218 : decode cX11_init 218 = .ok (.bipush 16, 2) := by decide +kernel
theorem dX11_init_220 : decode cX11_init 220 = .ok (.bipush 32, 2) := by decide +kernel
theorem dX11_init_222 : decode cX11_init 222 = .ok (.iastore, 1) := by decide +kernel
theorem dX11_init_223 : decode cX11_init 223 = .ok (.dup, 1) := by decide +kernel
theorem dX11_init_224 : decode cX11_init 224 = .ok (.bipush 17, 2) := by decide +kernel
theorem dX11_init_226 : decode cX11_init 226 = .ok (.bipush 108, 2) := by decide +kernel
theorem dX11_init_228 : decode cX11_init 228 = .ok (.iastore, 1) := by decide +kernel
theorem dX11_init_229 : decode cX11_init 229 = .ok (.dup, 1) := by decide +kernel
theorem dX11_init_230 : decode cX11_init 230 = .ok (.bipush 18, 2) := by decide +kernel
theorem dX11_init_232 : decode cX11_init 232 = .ok (.bipush 105, 2) := by decide +kernel
theorem dX11_init_234 : decode cX11_init 234 = .ok (.iastore, 1) := by decide +kernel
theorem dX11_init_235 : decode cX11_init 235 = .ok (.dup, 1) := by decide +kernel
theorem dX11_init_236 : decode cX11_init 236 = .ok (.bipush 19, 2) := by decide +kernel
theorem dX11_init_238 : decode cX11_init 238 = .ok (.bipush 107, 2) := by decide +kernel
theorem dX11_init_240 : decode cX11_init 240 = .ok (.iastore, 1) := by decide +kernel
theorem dX11_init_241 : decode cX11_init 241 = .ok (.dup, 1) := by decide +kernel
theorem dX11_init_242 : decode cX11_init 242 = .ok (.bipush 20, 2) := by decide +kernel
theorem dX11_init_244 : decode cX11_init 244 = .ok (.bipush 101, 2) := by decide +kernel
theorem dX11_init_246 : decode cX11_init 246 = .ok (.iastore, 1) := by decide +kernel
theorem dX11_init_247 : decode cX11_init 247 = .ok (.dup, 1) := by decide +kernel
theorem dX11_init_248 : decode cX11_init 248 = .ok (.bipush 21, 2) := by decide +kernel
theorem dX11_init_250 : decode cX11_init 250 = .ok (.bipush 115, 2) := by decide +kernel
theorem dX11_init_252 : decode cX11_init 252 = .ok (.iastore, 1) := by decide +kernel
theorem dX11_init_253 : decode cX11_init 253 = .ok (.dup, 1) := by decide +kernel
theorem dX11_init_254 : decode cX11_init 254 = .ok (.bipush 22, 2) := by decide +kernel
theorem dX11_init_256 : decode cX11_init 256 = .ok (.bipush 32, 2) := by decide +kernel
theorem dX11_init_258 : decode cX11_init 258 = .ok (.iastore, 1) := by decide +kernel
theorem dX11_init_259 : decode cX11_init 259 = .ok (.dup, 1) := by decide +kernel
theorem dX11_init_260 : decode cX11_init 260 = .ok (.bipush 23, 2) := by decide +kernel
theorem dX11_init_262 : decode cX11_init 262 = .ok (.bipush 119, 2) := by decide +kernel
theorem dX11_init_264 : decode cX11_init 264 = .ok (.iastore, 1) := by decide +kernel
theorem dX11_init_265 : decode cX11_init 265 = .ok (.dup, 1) := by decide +kernel
theorem dX11_init_266 : decode cX11_init 266 = .ok (.bipush 24, 2) := by decide +kernel
theorem dX11_init_268 : decode cX11_init 268 = .ok (.bipush 111, 2) := by decide +kernel
theorem dX11_init_270 : decode cX11_init 270 = .ok (.iastore, 1) := by decide +kernel
theorem dX11_init_271 : decode cX11_init 271 = .ok (.dup, 1) := by decide +kernel
theorem dX11_init_272 : decode cX11_init 272 = .ok (.bipush 25, 2) := by decide +kernel
theorem dX11_init_274 : decode cX11_init 274 = .ok (.bipush 114, 2) := by decide +kernel
theorem dX11_init_276 : decode cX11_init 276 = .ok (.iastore, 1) := by decide +kernel
theorem dX11_init_277 : decode cX11_init 277 = .ok (.dup, 1) := by decide +kernel
theorem dX11_init_278 : decode cX11_init 278 = .ok (.bipush 26, 2) := by decide +kernel
theorem dX11_init_280 : decode cX11_init 280 = .ok (.bipush 116, 2) := by decide +kernel
theorem dX11_init_282 : decode cX11_init 282 = .ok (.iastore, 1) := by decide +kernel
theorem dX11_init_283 : decode cX11_init 283 = .ok (.dup, 1) := by decide +kernel
theorem dX11_init_284 : decode cX11_init 284 = .ok (.bipush 27, 2) := by decide +kernel
theorem dX11_init_286 : decode cX11_init 286 = .ok (.bipush 104, 2) := by decide +kernel
theorem dX11_init_288 : decode cX11_init 288 = .ok (.iastore, 1) := by decide +kernel
theorem dX11_init_289 : decode cX11_init 289 = .ok (.dup, 1) := by decide +kernel
theorem dX11_init_290 : decode cX11_init 290 = .ok (.bipush 28, 2) := by decide +kernel
theorem dX11_init_292 : decode cX11_init 292 = .ok (.bipush 32, 2) := by decide +kernel
theorem dX11_init_294 : decode cX11_init 294 = .ok (.iastore, 1) := by decide +kernel
theorem dX11_init_295 : decode cX11_init 295 = .ok (.dup, 1) := by decide +kernel
theorem dX11_init_296 : decode cX11_init 296 = .ok (.bipush 29, 2) := by decide +kernel
theorem dX11_init_298 : decode cX11_init 298 = .ok (.bipush 59, 2) := by decide +kernel
theorem dX11_init_300 : decode cX11_init 300 = .ok (.iastore, 1) := by decide +kernel
theorem dX11_init_301 : decode cX11_init 301 = .ok (.dup, 1) := by decide +kernel
theorem dX11_init_302 : decode cX11_init 302 = .ok (.bipush 30, 2) := by decide +kernel
theorem dX11_init_304 : decode cX11_init 304 = .ok (.bipush 32, 2) := by decide +kernel
theorem dX11_init_306 : decode cX11_init 306 = .ok (.iastore, 1) := by decide +kernel
theorem dX11_init_307 : decode cX11_init 307 = .ok (.dup, 1) := by decide +kernel
theorem dX11_init_308 : decode cX11_init 308 = .ok (.bipush 31, 2) := by decide +kernel
theorem dX11_init_310 : decode cX11_init 310 = .ok (.bipush 119, 2) := by decide +kernel
theorem dX11_init_312 : decode cX11_init 312 = .ok (.iastore, 1) := by decide +kernel
theorem dX11_init_313 : decode cX11_init 313 = .ok (.dup, 1) := by decide +kernel
theorem dX11_init_314 : decode cX11_init 314 = .ok (.bipush 32, 2) := by decide +kernel
theorem dX11_init_316 : decode cX11_init 316 = .ok (.bipush 97, 2) := by decide +kernel
theorem dX11_init_318 : decode cX11_init 318 = .ok (.iastore, 1) := by decide +kernel
theorem dX11_init_319 : decode cX11_init 319 = .ok (.dup, 1) := by decide +kernel
theorem dX11_init_320 : decode cX11_init 320 = .ok (.bipush 33, 2) := by decide +kernel
theorem dX11_init_322 : decode cX11_init 322 = .ok (.bipush 105, 2) := by decide +kernel
theorem dX11_init_324 : decode cX11_init 324 = .ok (.iastore, 1) := by decide +kernel
theorem dX11_init_325 : decode cX11_init 325 = .ok (.dup, 1) := by decide +kernel
theorem dX11_init_326 : decode cX11_init 326 = .ok (.bipush 34, 2) := by decide +kernel
theorem dX11_init_328 : decode cX11_init 328 = .ok (.bipush 116, 2) := by decide +kernel
theorem dX11_init_330 : decode cX11_init 330 = .ok (.iastore, 1) := by decide +kernel
theorem dX11_init_331 : decode cX11_init 331 = .ok (.dup, 1) := by decide +kernel
theorem dX11_init_332 : decode cX11_init 332 = .ok (.bipush 35, 2) := by decide +kernel
theorem dX11_init_334 : decode cX11_init 334 = .ok (.bipush 115, 2) := by decide +kernel
theorem dX11_init_336 : decode cX11_init 336 = .ok (.iastore, 1) := by decide +kernel
theorem dX11_init_337 : decode cX11_init 337 = .ok (.dup, 1) := by decide +kernel
theorem dX11_init_338 : decode cX11_init 338 = .ok (.bipush 36, 2) := by decide +kernel
theorem dX11_init_340 : decode cX11_init 340 = .ok (.bipush 32, 2) := by decide +kernel
theorem dX11_init_342 : decode cX11_init 342 = .ok (.iastore, 1) := by decide +kernel
theorem dX11_init_343 : decode cX11_init 343 = .ok (.dup, 1) := by decide +kernel
theorem dX11_init_344 : decode cX11_init 344 = .ok (.bipush 37, 2) := by decide +kernel
theorem dX11_init_346 : decode cX11_init 346 = .ok (.bipush 48, 2) := by decide +kernel
theorem dX11_init_348 : decode cX11_init 348 = .ok (.iastore, 1) := by decide +kernel
theorem dX11_init_349 : decode cX11_init 349 = .ok (.dup, 1) := by decide +kernel
theorem dX11_init_350 : decode cX11_init 350 = .ok (.bipush 38, 2) := by decide +kernel
theorem dX11_init_352 : decode cX11_init 352 = .ok (.bipush 32, 2) := by decide +kernel
theorem dX11_init_354 : decode cX11_init 354 = .ok (.iastore, 1) := by decide +kernel
theorem dX11_init_355 : decode cX11_init 355 = .ok (.dup, 1) := by decide +kernel
theorem dX11_init_356 : decode cX11_init 356 = .ok (.bipush 39, 2) := by decide +kernel
theorem dX11_init_358 : decode cX11_init 358 = .ok (.bipush 59, 2) := by decide +kernel
theorem dX11_init_360 : decode cX11_init 360 = .ok (.iastore, 1) := by decide +kernel
theorem dX11_init_361 : decode cX11_init 361 = .ok (.putfield 49, 3) := by decide +kernel
theorem dX11_init_364 : decode cX11_init 364 = .ok (.aload_n 0, 1) := by decide +kernel
theorem dX11_init_365 : decode cX11_init 365 = .ok (.bipush 96, 2) := by decide +kernel
theorem dX11_init_367 : decode cX11_init 367 = .ok (.newarray .int, 2) := by decide +kernel
theorem dX11_init_369 : decode cX11_init 369 = .ok (.dup, 1) := by decide +kernel
theorem dX11_init_370 : decode cX11_init 370 = .ok (.iconst 0, 1) := by decide +kernel
theorem dX11_init_371 : decode cX11_init 371 = .ok (.bipush 112, 2) := by decide +kernel
theorem dX11_init_373 : decode cX11_init 373 = .ok (.iastore, 1) := by decide +kernel
theorem dX11_init_374 : decode cX11_init 374 = .ok (.dup, 1) := by decide +kernel
theorem dX11_init_375 : decode cX11_init 375 = .ok (.iconst 1, 1) := by decide +kernel
theorem dX11_init_376 : decode cX11_init 376 = .ok (.bipush 97, 2) := by decide +kernel
theorem dX11_init_378 : decode cX11_init 378 = .ok (.iastore, 1) := by decide +kernel
theorem dX11_init_379 : decode cX11_init 379 = .ok (.dup, 1) := by decide +kernel
theorem dX11_init_380 : decode cX11_init 380 = .ok (.iconst 2, 1) := by decide +kernel
theorem dX11_init_381 : decode cX11_init 381 = .ok (.bipush 121, 2) := by decide +kernel
theorem dX11_init_383 : decode cX11_init 383 = .ok (.iastore, 1) := by decide +kernel
theorem dX11_init_384 : decode cX11_init 384 = .ok (.dup, 1) := by decide +kernel
theorem dX11_init_385 : decode cX11_init 385 = .ok (.iconst 3, 1) := by decide +kernel
theorem dX11_init_386 : decode cX11_init 386 = .ok (.bipush 115, 2) := by decide +kernel
theorem dX11_init_388 : decode cX11_init 388 = .ok (.iastore, 1) := by decide +kernel
theorem dX11_init_389 : decode cX11_init 389 = .ok (.dup, 1) := by decide +kernel
theorem dX11_init_390 : decode cX11_init 390 = .ok (.iconst 4, 1) := by decide +kernel
theorem dX11_init_391 : decode cX11_init 391 = .ok (.bipush 32, 2) := by decide +kernel
theorem dX11_init_393 : decode cX11_init 393 = .ok (.iastore, 1) := by decide +kernel
theorem dX11_init_394 : decode cX11_init 394 = .ok (.dup, 1) := by decide +kernel
theorem dX11_init_395 : decode cX11_init 395 = .ok (.iconst 5, 1) := by decide +kernel
theorem dX11_init_396 : decode cX11_init 396 = .ok (.bipush 32, 2) := by decide +kernel
theorem dX11_init_398 : decode cX11_init 398 = .ok (.iastore, 1) := by decide +kernel
theorem dX11_init_399 : decode cX11_init 399 = .ok (.dup, 1) := by decide +kernel
theorem dX11_init_400 : decode cX11_init 400 = .ok (.bipush 6, 2) := by decide +kernel
theorem dX11_init_402 : decode cX11_init 402 = .ok (.bipush 32, 2) := by decide +kernel
theorem dX11_init_404 : decode cX11_init 404 = .ok (.iastore, 1) := by decide +kernel
theorem dX11_init_405 : decode cX11_init 405 = .ok (.dup, 1) := by decide +kernel
theorem dX11_init_406 : decode cX11_init 406 = .ok (.bipush 7, 2) := by decide +kernel
theorem dX11_init_408 : decode cX11_init 408 = .ok (.bipush 32, 2) := by decide +kernel
theorem dX11_init_410 : decode cX11_init 410 = .ok (.iastore, 1) := by decide +kernel
theorem dX11_init_411 : decode cX11_init 411 = .ok (.dup, 1) := by decide +kernel
theorem dX11_init_412 : decode cX11_init 412 = .ok (.bipush 8, 2) := by decide +kernel
theorem dX11_init_414 : decode cX11_init 414 = .ok (.bipush 108, 2) := by decide +kernel
theorem dX11_init_416 : decode cX11_init 416 = .ok (.iastore, 1) := by decide +kernel
theorem dX11_init_417 : decode cX11_init 417 = .ok (.dup, 1) := by decide +kernel
theorem dX11_init_418 : decode cX11_init 418 = .ok (.bipush 9, 2) := by decide +kernel
theorem dX11_init_420 : decode cX11_init 420 = .ok (.bipush 105, 2) := by decide +kernel
theorem dX11_init_422 : decode cX11_init 422 = .ok (.iastore, 1) := by decide +kernel
theorem dX11_init_423 : decode cX11_init 423 = .ok (.dup, 1) := by decide +kernel
theorem dX11_init_424 : decode cX11_init 424 = .ok (.bipush 10, 2) := by decide +kernel
theorem dX11_init_426 : decode cX11_init 426 = .ok (.bipush 107, 2) := by decide +kernel
theorem dX11_init_428 : decode cX11_init 428 = .ok (.iastore, 1) := by decide +kernel
theorem dX11_init_429 : decode cX11_init 429 = .ok (.dup, 1) := by decide +kernel
theorem dX11_init_430 : decode cX11_init 430 = .ok (.bipush 11, 2) := by decide +kernel
theorem dX11_init_432 : decode cX11_init 432 = .ok (.bipush 101, 2) := by decide +kernel
theorem dX11_init_434 : decode cX11_init 434 = .ok (.iastore, 1) := by decide +kernel
theorem dX11_init_435 : decode cX11_init 435 = .ok (.dup, 1) := by decide +kernel
theorem dX11_init_436 : decode cX11_init 436 = .ok (.bipush 12, 2) := by decide +kernel
theorem dX11_init_438 : decode cX11_init 438 = .ok (.bipush 115, 2) := by decide +kernel
theorem dX11_init_440 : decode cX11_init 440 = .ok (.iastore, 1) := by decide +kernel
theorem dX11_init_441 : decode cX11_init 441 = .ok (.dup, 1) := by decide +kernel
theorem dX11_init_442 : decode cX11_init 442 = .ok (.bipush 13, 2) := by decide +kernel
theorem dX11_init_444 : decode cX11_init 444 = .ok (.bipush 32, 2) := by decide +kernel
theorem dX11_init_446 : decode cX11_init 446 = .ok (.iastore, 1) := by decide +kernel
theorem dX11_init_447 : decode cX11_init 447 = .ok (.dup, 1) := by decide +kernel
theorem dX11_init_448 : decode cX11_init 448 = .ok (.bipush 14, 2) := by decide +kernel
theorem dX11_init_450 : decode cX11_init 450 = .ok (.bipush 32, 2) := by decide +kernel
theorem dX11_init_452 : decode cX11_init 452 = .ok (.iastore, 1) := by decide +kernel
theorem dX11_init_453 : decode cX11_init 453 = .ok (.dup, 1) := by decide +kernel
theorem dX11_init_454 : decode cX11_init 454 = .ok (.bipush 15, 2) := by decide +kernel
theorem dX11_init_456 : decode cX11_init 456 = .ok (.bipush 32, 2) := by decide +kernel
theorem dX11_init_458 : decode cX11_init 458 = .ok (.iastore, 1) := by decide +kernel
theorem dX11_init_459 : decode cX11_init 459 = .ok (.dup, 1) := by decide +kernel
theorem dX11_init_460 : decode cX11_init 460 = .ok (.bipush 16, 2) := by decide +kernel
theorem dX11_init_462 : decode cX11_init 462 = .ok (.bipush 119, 2) := by decide +kernel
theorem dX11_init_464 : decode cX11_init 464 = .ok (.iastore, 1) := by decide +kernel
theorem dX11_init_465 : decode cX11_init 465 = .ok (.dup, 1) := by decide +kernel
theorem dX11_init_466 : decode cX11_init 466 = .ok (.bipush 17, 2) := by decide +kernel
theorem dX11_init_468 : decode cX11_init 468 = .ok (.bipush 97, 2) := by decide +kernel
theorem dX11_init_470 : decode cX11_init 470 = .ok (.iastore, 1) := by decide +kernel
theorem dX11_init_471 : decode cX11_init 471 = .ok (.dup, 1) := by decide +kernel
theorem dX11_init_472 : decode cX11_init 472 = .ok (.bipush 18, 2) := by decide +kernel
theorem dX11_init_474 : decode cX11_init 474 = .ok (.bipush 105, 2) := by decide +kernel
theorem dX11_init_476 : decode cX11_init 476 = .ok (.iastore, 1) := by decide +kernel
theorem dX11_init_477 : decode cX11_init 477 = .ok (.dup, 1) := by decide +kernel
theorem dX11_init_478 : decode cX11_init 478 = .ok (.bipush 19, 2) := by decide +kernel
theorem dX11_init_480 : decode cX11_init 480 = .ok (.bipush 116, 2) := by decide +kernel
theorem dX11_init_482 : decode cX11_init 482 = .ok (.iastore, 1) := by decide +kernel
theorem dX11_init_483 : decode cX11_init 483 = .ok (.dup, 1) := by decide +kernel
theorem dX11_init_484 : decode cX11_init 484 = .ok (.bipush 20, 2) := by decide +kernel
theorem dX11_init_486 : decode cX11_init 486 = .ok (.bipush 115, 2) := by decide +kernel
theorem dX11_init_488 : decode cX11_init 488 = .ok (.iastore, 1) := by decide +kernel
theorem dX11_init_489 : decode cX11_init 489 = .ok (.dup, 1) := by decide +kernel
theorem dX11_init_490 : decode cX11_init 490 = .ok (.bipush 21, 2) := by decide +kernel
theorem dX11_init_492 : decode cX11_init 492 = .ok (.bipush 32, 2) := by decide +kernel
theorem dX11_init_494 : decode cX11_init 494 = .ok (.iastore, 1) := by decide +kernel
theorem dX11_init_495 : decode cX11_init 495 = .ok (.dup, 1) := by decide +kernel
theorem dX11_init_496 : decode cX11_init 496 = .ok (.bipush 22, 2) := by decide +kernel
theorem dX11_init_498 : decode cX11_init 498 = .ok (.bipush 32, 2) := by decide +kernel
theorem dX11_init_500 : decode cX11_init 500 = .ok (.iastore, 1) := by decide +kernel
theorem dX11_init_501 : decode cX11_init 501 = .ok (.dup, 1) := by decide +kernel
theorem dX11_init_502 : decode cX11_init 502 = .ok (.bipush 23, 2) := by decide +kernel
theorem dX11_init_504 : decode cX11_init 504 = .ok (.bipush 32, 2) := by decide +kernel
theorem dX11_init_506 : decode cX11_init 506 = .ok (.iastore, 1) := by decide +kernel
theorem dX11_init_507 : decode cX11_init 507 = .ok (.dup, 1) := by decide +kernel
theorem dX11_init_508 : decode cX11_init 508 = .ok (.bipush 24, 2) := by decide +kernel
theorem dX11_init_510 : decode cX11_init 510 = .ok (.bipush 99, 2) := by decide +kernel
theorem dX11_init_512 : decode cX11_init 512 = .ok (.iastore, 1) := by decide +kernel
theorem dX11_init_513 : decode cX11_init 513 = .ok (.dup, 1) := by decide +kernel
theorem dX11_init_514 : decode cX11_init 514 = .ok (.bipush 25, 2) := by decide +kernel
theorem dX11_init_516 : decode cX11_init 516 = .ok (.bipush 101, 2) := by decide +kernel
theorem dX11_init_518 : decode cX11_init 518 = .ok (.iastore, 1) := by decide +kernel
theorem dX11_init_519 : decode cX11_init 519 = .ok (.dup, 1) := by decide +kernel
theorem dX11_init_520 : decode cX11_init 520 = .ok (.bipush 26, 2) := by decide +kernel
theorem dX11_init_522 : decode cX11_init 522 = .ok (.bipush 108, 2) := by decide +kernel
theorem dX11_init_524 : decode cX11_init 524 = .ok (.iastore, 1) := by decide +kernel
theorem dX11_init_525 : decode cX11_init 525 = .ok (.dup, 1) := by decide +kernel
theorem dX11_init_526 : decode cX11_init 526 = .ok (.bipush 27, 2) := by decide +kernel
theorem dX11_init_528 : decode cX11_init 528 = .ok (.bipush 108, 2) := by decide +kernel
theorem dX11_init_530 : decode cX11_init 530 = .ok (.iastore, 1) := by decide +kernel
theorem dX11_init_531 : decode cX11_init 531 = .ok (.dup, 1) := by decide +kernel
theorem dX11_init_532 : decode cX11_init 532 = .ok (.bipush 28, 2) := by decide +kernel
theorem dX11_init_534 : decode cX11_init 534 = .ok (.bipush 115, 2) := by decide +kernel
theorem dX11_init_536 : decode cX11_init 536 = .ok (.iastore, 1) := by decide +kernel
theorem dX11_init_537 : decode cX11_init 537 = .ok (.dup, 1) := by decide +kernel
theorem dX11_init_538 : decode cX11_init 538 = .ok (.bipush 29, 2) := by decide +kernel
theorem dX11_init_540 : decode cX11_init 540 = .ok (.bipush 32, 2) := by decide +kernel
theorem dX11_init_542 : decode cX11_init 542 = .ok (.iastore, 1) := by decide +kernel
theorem dX11_init_543 : decode cX11_init 543 = .ok (.dup, 1) := by decide +kernel
theorem dX11_init_544 : decode cX11_init 544 = .ok (.bipush 30, 2) := by decide +kernel
theorem dX11_init_546 : decode cX11_init 546 = .ok (.bipush 32, 2) := by decide +kernel
theorem dX11_init_548 : decode cX11_init 548 = .ok (.iastore, 1) := by decide +kernel
theorem dX11_init_549 : decode cX11_init 549 = .ok (.dup, 1) := by decide +kernel
theorem dX11_init_550 : decode cX11_init 550 = .ok (.bipush 31, 2) := by decide +kernel
theorem dX11_init_552 : decode cX11_init 552 = .ok (.bipush 32, 2) := by decide +kernel
theorem dX11_init_554 : decode cX11_init 554 = .ok (.iastore, 1) := by decide +kernel
theorem dX11_init_555 : decode cX11_init 555 = .ok (.dup, 1) := by decide +kernel
theorem dX11_init_556 : decode cX11_init 556 = .ok (.bipush 32, 2) := by decide +kernel
theorem dX11_init_558 : decode cX11_init 558 = .ok (.bipush 119, 2) := by decide +kernel
theorem dX11_init_560 : decode cX11_init 560 = .ok (.iastore, 1) := by decide +kernel
theorem dX11_init_561 : decode cX11_init 561 = .ok (.dup, 1) := by decide +kernel
theorem dX11_init_562 : decode cX11_init 562 = .ok (.bipush 33, 2) := by decide +kernel
theorem dX11_init_564 : decode cX11_init 564 = .ok (.bipush 111, 2) := by decide +kernel
theorem dX11_init_566 : decode cX11_init 566 = .ok (.iastore, 1) := by decide +kernel
theorem dX11_init_567 : decode cX11_init 567 = .ok (.dup, 1) := by decide +kernel
theorem dX11_init_568 : decode cX11_init 568 = .ok (.bipush 34, 2) := by decide +kernel
theorem dX11_init_570 : decode cX11_init 570 = .ok (.bipush 114, 2) := by decide +kernel
theorem dX11_init_572 : decode cX11_init 572 = .ok (.iastore, 1) := by decide +kernel
theorem dX11_init_573 : decode cX11_init 573 = .ok (.dup, 1) := by decide +kernel
theorem dX11_init_574 : decode cX11_init 574 = .ok (.bipush 35, 2) := by decide +kernel
theorem dX11_init_576 : decode cX11_init 576 = .ok (.bipush 116, 2) := by decide +kernel
theorem dX11_init_578 : decode cX11_init 578 = .ok (.iastore, 1) := by decide +kernel
theorem dX11_init_579 : decode cX11_init 579 = .ok (.dup, 1) := by decide +kernel
theorem dX11_init_580 : decode cX11_init 580 = .ok (.bipush 36, 2) := by decide +kernel
theorem dX11_init_582 : decode cX11_init 582 = .ok (.bipush 104, 2) := by decide +kernel
theorem dX11_init_584 : decode cX11_init 584 = .ok (.iastore, 1) := by decide +kernel
theorem dX11_init_585 : decode cX11_init 585 = .ok (.dup, 1) := by decide +kernel
theorem dX11_init_586 : decode cX11_init 586 = .ok (.bipush 37, 2) := by decide +kernel
theorem dX11_init_588 : decode cX11_init 588 = .ok (.bipush 32, 2) := by decide +kernel
theorem dX11_init_590 : decode cX11_init 590 = .ok (.iastore, 1) := by decide +kernel
theorem dX11_init_591 : decode cX11_init 591 = .ok (.dup, 1) := by decide +kernel
theorem dX11_init_592 : decode cX11_init 592 = .ok (.bipush 38, 2) := by decide +kernel
theorem dX11_init_594 : decode cX11_init 594 = .ok (.bipush 32, 2) := by decide +kernel
theorem dX11_init_596 : decode cX11_init 596 = .ok (.iastore, 1) := by decide +kernel
theorem dX11_init_597 : decode cX11_init 597 = .ok (.dup, 1) := by decide +kernel
theorem dX11_init_598 : decode cX11_init 598 = .ok (.bipush 39, 2) := by decide +kernel
theorem dX11_init_600 : decode cX11_init 600 = .ok (.bipush 32, 2) := by decide +kernel
theorem dX11_init_602 : decode cX11_init 602 = .ok (.iastore, 1) := by decide +kernel
theorem dX11_init_603 : decode cX11_init 603 = .ok (.dup, 1) := by decide +kernel
theorem dX11_init_604 : decode cX11_init 604 = .ok (.bipush 40, 2) := by decide +kernel
theorem dX11_init_606 : decode cX11_init 606 = .ok (.bipush 115, 2) := by decide +kernel
theorem dX11_init_608 : decode cX11_init 608 = .ok (.iastore, 1) := by decide +kernel
theorem dX11_init_609 : decode cX11_init 609 = .ok (.dup, 1) := by decide +kernel
theorem dX11_init_610 : decode cX11_init 610 = .ok (.bipush 41, 2) := by decide +kernel
theorem dX11_init_612 : decode cX11_init 612 = .ok (.bipush 111, 2) := by decide +kernel
theorem dX11_init_614 : decode cX11_init 614 = .ok (.iastore, 1) := by decide +kernel
theorem dX11_init_615 : decode cX11_init 615 = .ok (.dup, 1) := by decide +kernel
theorem dX11_init_616 : decode cX11_init 616 = .ok (.bipush 42, 2) := by decide +kernel
theorem dX11_init_618 : decode cX11_init 618 = .ok (.bipush 102, 2) := by decide +kernel
theorem dX11_init_620 : decode cX11_init 620 = .ok (.iastore, 1) := by decide +kernel
theorem dX11_init_621 : decode cX11_init 621 = .ok (.dup, 1) := by decide +kernel
theorem dX11_init_622 : decode cX11_init 622 = .ok (.bipush 43, 2) := by decide +kernel
theorem dX11_init_624 : decode cX11_init 624 = .ok (.bipush 116, 2) := by decide +kernel
theorem dX11_init_626 : decode cX11_init 626 = .ok (.iastore, 1) := by decide +kernel
theorem dX11_init_627 : decode cX11_init 627 = .ok (.dup, 1) := by decide +kernel
theorem dX11_init_628 : decode cX11_init 628 = .ok (.bipush 44, 2) := by decide +kernel
theorem dX11_init_630 : decode cX11_init 630 = .ok (.bipush 32, 2) := by decide +kernel
theorem dX11_init_632 : decode cX11_init 632 = .ok (.iastore, 1) := by decide +kernel
theorem dX11_init_633 : decode cX11_init 633 = .ok (.dup, 1) := by decide +kernel
theorem dX11_init_634 : decode cX11_init 634 = .ok (.bipush 45, 2) := by decide +kernel
theorem dX11_init_636 : decode cX11_init 636 = .ok (.bipush 32, 2) := by decide +kernel
theorem dX11_init_638 : decode cX11_init 638 = .ok (.iastore, 1) := by decide +kernel
theorem dX11_init_639 : decode cX11_init 639 = .ok (.dup, 1) := by decide +kernel
theorem dX11_init_640 : decode cX11_init 640 = .ok (.bipush 46, 2) := by decide +kernel
theorem dX11_init_642 : decode cX11_init 642 = .ok (.bipush 32, 2) := by decide +kernel
theorem dX11_init_644 : decode cX11_init 644 = .ok (.iastore, 1) := by decide +kernel
theorem dX11_init_645 : decode cX11_init 645 = .ok (.dup, 1) := by decide +kernel
theorem dX11_init_646 : decode cX11_init 646 = .ok (.bipush 47, 2) := by decide +kernel
theorem dX11_init_648 : decode cX11_init 648 = .ok (.bipush 32, 2) := by decide +kernel
theorem dX11_init_650 : decode cX11_init 650 = .ok (.iastore, 1) := by decide +kernel
theorem dX11_init_651 : decode cX11_init 651 = .ok (.dup, 1) := by decide +kernel
theorem dX11_init_652 : decode cX11_init 652 = .ok (.bipush 48, 2) := by decide +kernel
theorem dX11_init_654 : decode cX11_init 654 = .ok (.bipush 109, 2) := by decide +kernel
theorem dX11_init_656 : decode cX11_init 656 = .ok (.iastore, 1) := by decide +kernel
theorem dX11_init_657 : decode cX11_init 657 = .ok (.dup, 1) := by decide +kernel
theorem dX11_init_658 : decode cX11_init 658 = .ok (.bipush 49, 2) := by decide +kernel
theorem dX11_init_660 : decode cX11_init 660 = .ok (.bipush 111, 2) := by decide +kernel
theorem dX11_init_662 : decode cX11_init 662 = .ok (.iastore, 1) := by decide +kernel
theorem dX11_init_663 : decode cX11_init 663 = .ok (.dup, 1) := by decide +kernel
theorem dX11_init_664 : decode cX11_init 664 = .ok (.bipush 50, 2) := by decide +kernel
theorem dX11_init_666 : decode cX11_init 666 = .ok (.bipush 114, 2) := by decide +kernel
theorem dX11_init_668 : decode cX11_init 668 = .ok (.iastore, 1) := by decide +kernel
theorem dX11_init_669 : decode cX11_init 669 = .ok (.dup, 1) := by decide +kernel
theorem dX11_init_670 : decode cX11_init 670 = .ok (.bipush 51, 2) := by decide +kernel
theorem dX11_init_672 : decode cX11_init 672 = .ok (.bipush 101, 2) := by decide +kernel
theorem dX11_init_674 : decode cX11_init 674 = .ok (.iastore, 1) := by decide +kernel
theorem dX11_init_675 : decode cX11_init 675 = .ok (.dup, 1) := by decide +kernel
theorem dX11_init_676 : decode cX11_init 676 = .ok (.bipush 52, 2) := by decide +kernel
theorem dX11_init_678 : decode cX11_init 678 = .ok (.bipush 32, 2) := by decide +kernel
theorem dX11_init_680 : decode cX11_init 680 = .ok (.iastore, 1) := by decide +kernel
theorem dX11_init_681 : decode cX11_init 681 = .ok (.dup, 1) := by decide +kernel
theorem dX11_init_682 : decode cX11_init 682 = .ok (.bipush 53, 2) := by decide +kernel
theorem dX11_init_684 : decode cX11_init 684 = .ok (.bipush 32, 2) := by decide +kernel
theorem dX11_init_686 : decode cX11_init 686 = .ok (.iastore, 1) := by decide +kernel
theorem dX11_init_687 : decode cX11_init 687 = .ok (.dup, 1) := by decide +kernel
theorem dX11_init_688 : decode cX11_init 688 = .ok (.bipush 54, 2) := by decide +kernel
theorem dX11_init_690 : decode cX11_init 690 = .ok (.bipush 32, 2) := by decide +kernel
theorem dX11_init_692 : decode cX11_init 692 = .ok (.iastore, 1) := by decide +kernel
theorem dX11_init_693 : decode cX11_init 693 = .ok (.dup, 1) := by decide +kernel
theorem dX11_init_694 : decode cX11_init 694 = .ok (.bipush 55, 2) := by decide +kernel
theorem dX11_init_696 : decode cX11_init 696 = .ok (.bipush 32, 2) := by decide +kernel
theorem dX11_init_698 : decode cX11_init 698 = .ok (.iastore, 1) := by decide +kernel
theorem dX11_init_699 : decode cX11_init 699 = .ok (.dup, 1) := by decide +kernel
theorem dX11_init_700 : decode cX11_init 700 = .ok (.bipush 56, 2) := by decide +kernel
theorem dX11_init_702 : decode cX11_init 702 = .ok (.bipush 108, 2) := by decide +kernel
theorem dX11_init_704 : decode cX11_init 704 = .ok (.iastore, 1) := by decide +kernel
theorem dX11_init_705 : decode cX11_init 705 = .ok (.dup, 1) := by decide +kernel
theorem dX11_init_706 : decode cX11_init 706 = .ok (.bipush 57, 2) := by decide +kernel
theorem dX11_init_708 : decode cX11_init 708 = .ok (.bipush 101, 2) := by decide +kernel
theorem dX11_init_710 : decode cX11_init 710 = .ok (.iastore, 1) := by decide +kernel
theorem dX11_init_711 : decode cX11_init 711 = .ok (.dup, 1) := by decide +kernel
theorem dX11_init_712 : decode cX11_init 712 = .ok (.bipush 58, 2) := by decide +kernel
theorem dX11_init_714 : decode cX11_init 714 = .ok (.bipush 102, 2) := by decide +kernel
theorem dX11_init_716 : decode cX11_init 716 = .ok (.iastore, 1) := by decide +kernel
theorem dX11_init_717 : decode cX11_init 717 = .ok (.dup, 1) := by decide +kernel
theorem dX11_init_718 : decode cX11_init 718 = .ok (.bipush 59, 2) := by decide +kernel
theorem dX11_init_720 : decode cX11_init 720 = .ok (.bipush 116, 2) := by decide +kernel
theorem dX11_init_722 : decode cX11_init 722 = .ok (.iastore, 1) := by decide +kernel
theorem dX11_init_723 : decode cX11_init 723 = .ok (.dup, 1) := by decide +kernel
theorem dX11_init_724 : decode cX11_init 724 = .ok (.bipush 60, 2) := by decide +kernel
theorem dX11_init_726 : decode cX11_init 726 = .ok (.bipush 32, 2) := by decide +kernel
theorem dX11_init_728 : decode cX11_init 728 = .ok (.iastore, 1) := by decide +kernel
theorem dX11_init_729 : decode cX11_init 729 = .ok (.dup, 1) := by decide +kernel
theorem dX11_init_730 : decode cX11_init 730 = .ok (.bipush 61, 2) := by decide +kernel
theorem dX11_init_732 : decode cX11_init 732 = .ok (.bipush 32, 2) := by decide +kernel
theorem dX11_init_734 : decode cX11_init 734 = .ok (.iastore, 1) := by decide +kernel
theorem dX11_init_735 : decode cX11_init 735 = .ok (.dup, 1) := by decide +kernel
theorem dX11_init_736 : decode cX11_init 736 = .ok (.bipush 62, 2) := by decide +kernel
theorem dX11_init_738 : decode cX11_init 738 = .ok (.bipush 32, 2) := by decide +kernel
theorem dX11_init_740 : decode cX11_init 740 = .ok (.iastore, 1) := by decide +kernel
theorem dX11_init_741 : decode cX11_init 741 = .ok (.dup, 1) := by decide +kernel
theorem dX11_init_742 : decode cX11_init 742 = .ok (.bipush 63, 2) := by decide +kernel
theorem dX11_init_744 : decode cX11_init 744 = .ok (.bipush 32, 2) := by decide +kernel
theorem dX11_init_746 : decode cX11_init 746 = .ok (.iastore, 1) := by decide +kernel
theorem dX11_init_747 : decode cX11_init 747 = .ok (.dup, 1) := by decide +kernel
theorem dX11_init_748 : decode cX11_init 748 = .ok (.bipush 64, 2) := by decide +kernel
theorem dX11_init_750 : decode cX11_init 750 = .ok (.bipush 100, 2) := by decide +kernel
theorem dX11_init_752 : decode cX11_init 752 = .ok (.iastore, 1) := by decide +kernel
theorem dX11_init_753 : decode cX11_init 753 = .ok (.dup, 1) := by decide +kernel
theorem dX11_init_754 : decode cX11_init 754 = .ok (.bipush 65, 2) := by decide +kernel
theorem dX11_init_756 : decode cX11_init 756 = .ok (.bipush 97, 2) := by decide +kernel
theorem dX11_init_758 : decode cX11_init 758 = .ok (.iastore, 1) := by decide +kernel
theorem dX11_init_759 : decode cX11_init 759 = .ok (.dup, 1) := by decide +kernel
theorem dX11_init_760 : decode cX11_init 760 = .ok (.bipush 66, 2) := by decide +kernel
theorem dX11_init_762 : decode cX11_init 762 = .ok (.bipush 121, 2) := by decide +kernel
theorem dX11_init_764 : decode cX11_init 764 = .ok (.iastore, 1) := by decide +kernel
theorem dX11_init_765 : decode cX11_init 765 = .ok (.dup, 1) := by decide +kernel
theorem dX11_init_766 : decode cX11_init 766 = .ok (.bipush 67, 2) := by decide +kernel
theorem dX11_init_768 : decode cX11_init 768 = .ok (.bipush 32, 2) := by decide +kernel
theorem dX11_init_770 : decode cX11_init 770 = .ok (.iastore, 1) := by decide +kernel
theorem dX11_init_771 : decode cX11_init 771 = .ok (.dup, 1) := by decide +kernel
theorem dX11_init_772 : decode cX11_init 772 = .ok (.bipush 68, 2) := by decide +kernel
theorem dX11_init_774 : decode cX11_init 774 = .ok (.bipush 32, 2) := by decide +kernel
theorem dX11_init_776 : decode cX11_init 776 = .ok (.iastore, 1) := by decide +kernel
theorem dX11_init_777 : decode cX11_init 777 = .ok (.dup, 1) := by decide +kernel
theorem dX11_init_778 : decode cX11_init 778 = .ok (.bipush 69, 2) := by decide +kernel
theorem dX11_init_780 : decode cX11_init 780 = .ok (.bipush 32, 2) := by decide +kernel
theorem dX11_init_782 : decode cX11_init 782 = .ok (.iastore, 1) := by decide +kernel
theorem dX11_init_783 : decode cX11_init 783 = .ok (.dup, 1) := by decide +kernel
theorem dX11_init_784 : decode cX11_init 784 = .ok (.bipush 70, 2) := by decide +kernel
theorem dX11_init_786 : decode cX11_init 786 = .ok (.bipush 32, 2) := by decide +kernel
theorem dX11_init_788 : decode cX11_init 788 = .ok (.iastore, 1) := by decide +kernel
theorem dX11_init_789 : decode cX11_init 789 = .ok (.dup, 1) := by decide +kernel
theorem dX11_init_790 : decode cX11_init 790 = .ok (.bipush 71, 2) := by decide +kernel
theorem dX11_init_792 : decode cX11_init 792 = .ok (.bipush 32, 2) := by decide +kernel
theorem dX11_init_794 : decode cX11_init 794 = .ok (.iastore, 1) := by decide +kernel
theorem dX11_init_795 : decode cX11_init 795 = .ok (.dup, 1) := by decide +kernel
theorem dX11_init_796 : decode cX11_init 796 = .ok (.bipush 72, 2) := by decide +kernel
theorem dX11_init_798 : decode cX11_init 798 = .ok (.bipush 111, 2) := by decide +kernel
theorem dX11_init_800 : decode cX11_init 800 = .ok (.iastore, 1) := by decide +kernel
theorem dX11_init_801 : decode cX11_init 801 = .ok (.dup, 1) := by decide +kernel
theorem dX11_init_802 : decode cX11_init 802 = .ok (.bipush 73, 2) := by decide +kernel
theorem dX11_init_804 : decode cX11_init 804 = .ok (.bipush 114, 2) := by decide +kernel
theorem dX11_init_806 : decode cX11_init 806 = .ok (.iastore, 1) := by decide +kernel
theorem dX11_init_807 : decode cX11_init 807 = .ok (.dup, 1) := by decide +kernel
theorem dX11_init_808 : decode cX11_init 808 = .ok (.bipush 74, 2) := by decide +kernel
theorem dX11_init_810 : decode cX11_init 810 = .ok (.bipush 32, 2) := by decide +kernel
theorem dX11_init_812 : decode cX11_init 812 = .ok (.iastore, 1) := by decide +kernel
theorem dX11_init_813 : decode cX11_init 813 = .ok (.dup, 1) := by decide +kernel
theorem dX11_init_814 : decode cX11_init 814 = .ok (.bipush 75, 2) := by decide +kernel
theorem dX11_init_816 : decode cX11_init 816 = .ok (.bipush 32, 2) := by decide +kernel
theorem dX11_init_818 : decode cX11_init 818 = .ok (.iastore, 1) := by decide +kernel
theorem dX11_init_819 : decode cX11_init 819 = .ok (.dup, 1) := by decide +kernel
theorem dX11_init_820 : decode cX11_init 820 = .ok (.bipush 76, 2) := by decide +kernel
theorem dX11_init_822 : decode cX11_init 822 = .ok (.bipush 32, 2) := by decide +kernel
theorem dX11_init_824 : decode cX11_init 824 = .ok (.iastore, 1) := by decide +kernel
theorem dX11_init_825 : decode cX11_init 825 = .ok (.dup, 1) := by decide +kernel
theorem dX11_init_826 : decode cX11_init 826 = .ok (.bipush 77, 2) := by decide +kernel
theorem dX11_init_828 : decode cX11_init 828 = .ok (.bipush 32, 2) := by decide +kernel
theorem dX11_init_830 : decode cX11_init 830 = .ok (.iastore, 1) := by decide +kernel
theorem dX11_init_831 : decode cX11_init 831 = .ok (.dup, 1) := by decide +kernel
theorem dX11_init_832 : decode cX11_init 832 = .ok (.bipush 78, 2) := by decide +kernel
theorem dX11_init_834 : decode cX11_init 834 = .ok (.bipush 32, 2) := by decide +kernel
theorem dX11_init_836 : decode cX11_init 836 = .ok (.iastore, 1) := by decide +kernel
theorem dX11_init_837 : decode cX11_init 837 = .ok (.dup, 1) := by decide +kernel
theorem dX11_init_838 : decode cX11_init 838 = .ok (.bipush 79, 2) := by decide +kernel
theorem dX11_init_840 : decode cX11_init 840 = .ok (.bipush 32, 2) := by decide +kernel
theorem dX11_init_842 : decode cX11_init 842 = .ok (.iastore, 1) := by decide +kernel
theorem dX11_init_843 : decode cX11_init 843 = .ok (.dup, 1) := by decide +kernel
theorem dX11_init_844 : decode cX11_init 844 = .ok (.bipush 80, 2) := by decide +kernel
theorem dX11_init_846 : decode cX11_init 846 = .ok (.bipush 97, 2) := by decide +kernel
theorem dX11_init_848 : decode cX11_init 848 = .ok (.iastore, 1) := by decide +kernel
theorem dX11_init_849 : decode cX11_init 849 = .ok (.dup, 1) := by decide +kernel
theorem dX11_init_850 : decode cX11_init 850 = .ok (.bipush 81, 2) := by decide +kernel
theorem dX11_init_852 : decode cX11_init 852 = .ok (.bipush 110, 2) := by decide +kernel
theorem dX11_init_854 : decode cX11_init 854 = .ok (.iastore, 1) := by decide +kernel
theorem dX11_init_855 : decode cX11_init 855 = .ok (.dup, 1) := by decide +kernel
theorem dX11_init_856 : decode cX11_init 856 = .ok (.bipush 82, 2) := by decide +kernel
theorem dX11_init_858 : decode cX11_init 858 = .ok (.bipush 100, 2) := by decide +kernel
theorem dX11_init_860 : decode cX11_init 860 = .ok (.iastore, 1) := by decide +kernel
theorem dX11_init_861 : decode cX11_init 861 = .ok (.dup, 1) := by decide +kernel
theorem dX11_init_862 : decode cX11_init 862 = .ok (.bipush 83, 2) := by decide +kernel
theorem dX11_init_864 : decode cX11_init 864 = .ok (.bipush 32, 2) := by decide +kernel
theorem dX11_init_866 : decode cX11_init 866 = .ok (.iastore, 1) := by decide +kernel
theorem dX11_init_867 : decode cX11_init 867 = .ok (.dup, 1) := by decide +kernel
theorem dX11_init_868 : decode cX11_init 868 = .ok (.bipush 84, 2) := by decide +kernel
theorem dX11_init_870 : decode cX11_init 870 = .ok (.bipush 32, 2) := by decide +kernel
theorem dX11_init_872 : decode cX11_init 872 = .ok (.iastore, 1) := by decide +kernel
theorem dX11_init_873 : decode cX11_init 873 = .ok (.dup, 1) := by decide +kernel
theorem dX11_init_874 : decode cX11_init 874 = .ok (.bipush 85, 2) := by decide +kernel
theorem dX11_init_876 : decode cX11_init 876 = .ok (.bipush 32, 2) := by decide +kernel
theorem dX11_init_878 : decode cX11_init 878 = .ok (.iastore, 1) := by decide +kernel
theorem dX11_init_879 : decode cX11_init 879 = .ok (.dup, 1) := by decide +kernel
theorem dX11_init_880 : decode cX11_init 880 = .ok (.bipush 86, 2) := by decide +kernel
theorem dX11_init_882 : decode cX11_init 882 = .ok (.bipush 32, 2) := by decide +kernel
theorem dX11_init_884 : decode cX11_init 884 = .ok (.iastore, 1) := by decide +kernel
theorem dX11_init_885 : decode cX11_init 885 = .ok (.dup, 1) := by decide +kernel
theorem dX11_init_886 : decode cX11_init 886 = .ok (.bipush 87, 2) := by decide +kernel
theorem dX11_init_888 : decode cX11_init 888 = .ok (.bipush 32, 2) := by decide +kernel
theorem dX11_init_890 : decode cX11_init 890 = .ok (.iastore, 1) := by decide +kernel
theorem dX11_init_891 : decode cX11_init 891 = .ok (.dup, 1) := by decide +kernel
theorem dX11_init_892 : decode cX11_init 892 = .ok (.bipush 88, 2) := by decide +kernel
theorem dX11_init_894 : decode cX11_init 894 = .ok (.bipush 110, 2) := by decide +kernel
theorem dX11_init_896 : decode cX11_init 896 = .ok (.iastore, 1) := by decide +kernel
theorem dX11_init_897 : decode cX11_init 897 = .ok (.dup, 1) := by decide +kernel
theorem dX11_init_898 : decode cX11_init 898 = .ok (.bipush 89, 2) := by decide +kernel
theorem dX11_init_900 : decode cX11_init 900 = .ok (.bipush 111, 2) := by decide +kernel
theorem dX11_init_902 : decode cX11_init 902 = .ok (.iastore, 1) := by decide +kernel
theorem dX11_init_903 : decode cX11_init 903 = .ok (.dup, 1) := by decide +kernel
theorem dX11_init_904 : decode cX11_init 904 = .ok (.bipush 90, 2) := by decide +kernel
theorem dX11_init_906 : decode cX11_init 906 = .ok (.bipush 116, 2) := by decide +kernel
theorem dX11_init_908 : decode cX11_init 908 = .ok (.iastore, 1) := by decide +kernel
theorem dX11_init_909 : decode cX11_init 909 = .ok (.dup, 1) := by decide +kernel
theorem dX11_init_910 : decode cX11_init 910 = .ok (.bipush 91, 2) := by decide +kernel
theorem dX11_init_912 : decode cX11_init 912 = .ok (.bipush 32, 2) := by decide +kernel
theorem dX11_init_914 : decode cX11_init 914 = .ok (.iastore, 1) := by decide +kernel
theorem dX11_init_915 : decode cX11_init 915 = .ok (.dup, 1) := by decide +kernel
theorem dX11_init_916 : decode cX11_init 916 = .ok (.bipush 92, 2) := by decide +kernel
theorem dX11_init_918 : decode cX11_init 918 = .ok (.bipush 32, 2) := by decide +kernel
theorem dX11_init_920 : decode cX11_init 920 = .ok (.iastore, 1) := by decide +kernel
theorem dX11_init_921 : decode cX11_init 921 = .ok (.dup, 1) := by decide +kernel
theorem dX11_init_922 : decode cX11_init 922 = .ok (.bipush 93, 2) := by decide +kernel
theorem dX11_init_924 : decode cX11_init 924 = .ok (.bipush 32, 2) := by decide +kernel
theorem dX11_init_926 : decode cX11_init 926 = .ok (.iastore, 1) := by decide +kernel
theorem dX11_init_927 : decode cX11_init 927 = .ok (.dup, 1) := by decide +kernel
theorem dX11_init_928 : decode cX11_init 928 = .ok (.bipush 94, 2) := by decide +kernel
theorem dX11_init_930 : decode cX11_init 930 = .ok (.bipush 32, 2) := by decide +kernel
theorem dX11_init_932 : decode cX11_init 932 = .ok (.iastore, 1) := by decide +kernel
theorem dX11_init_933 : decode cX11_init 933 = .ok (.dup, 1) := by decide +kernel
theorem dX11_init_934 : decode cX11_init 934 = .ok (.bipush 95, 2) := by decide +kernel
theorem dX11_init_936 : decode cX11_init 936 = .ok (.bipush 32, 2) := by decide +kernel
theorem dX11_init_938 : decode cX11_init 938 = .ok (.iastore, 1) := by decide +kernel
theorem dX11_init_939 : decode cX11_init 939 = .ok (.putfield 52, 3) := by decide +kernel
theorem dX11_init_942 : decode cX11_init 942 = .ok (.aload_n 0, 1) := by decide +kernel
theorem dX11_init_943 : decode cX11_init 943 = .ok (.sipush 200, 3) := by decide +kernel
theorem dX11_init_946 : decode cX11_init 946 = .ok (.newarray .int, 2) := by decide +kernel
theorem dX11_init_948 : decode cX11_init 948 = .ok (.putfield 55, 3) := by decide +kernel
theorem dX11_init_951 : decode cX11_init 951 = .ok (.aload_n 0, 1) := by decide +kernel
theorem dX11_init_952 : decode cX11_init 952 = .ok (.sipush 200, 3) := by decide +kernel
theorem dX11_init_955 : decode cX11_init 955 = .ok (.newarray .int, 2) := by decide +kernel
theorem dX11_init_957 : decode cX11_init 957 = .ok (.putfield 58, 3) := by decide +kernel
theorem dX11_init_960 : decode cX11_init 960 = .ok (.aload_n 0, 1) := by decide +kernel
theorem dX11_init_961 : decode cX11_init 961 = .ok (.bipush 6, 2) := by decide +kernel
theorem dX11_init_963 : decode cX11_init 963 = .ok (.newarray .int, 2) := by decide +kernel
theorem dX11_init_965 : decode cX11_init 965 = .ok (.putfield 61, 3) := by decide +kernel
theorem dX11_init_968 : decode cX11_init 968 = .ok (.aload_n 0, 1) := by decide +kernel
theorem dX11_init_969 : decode cX11_init 969 = .ok (.bipush 21, 2) := by decide +kernel
theorem dX11_init_971 : decode cX11_init 971 = .ok (.newarray .int, 2) := by decide +kernel
theorem dX11_init_973 : decode cX11_init 973 = .ok (.putfield 64, 3) := by decide +kernel
theorem dX11_init_976 : decode cX11_init 976 = .ok (.aload_n 0, 1) := by decide +kernel
theorem dX11_init_977 : decode cX11_init 977 = .ok (.iconst 5, 1) := by decide +kernel
theorem dX11_init_978 : decode cX11_init 978 = .ok (.newarray .int, 2) := by decide +kernel
theorem dX11_init_980 : decode cX11_init 980 = .ok (.putfield 67, 3) := by decide +kernel
theorem dX11_init_983 : decode cX11_init 983 = .ok (.aload_n 0, 1) := by decide +kernel
theorem dX11_init_984 : decode cX11_init 984 = .ok (.sipush 1024, 3) := by decide +kernel
theorem dX11_init_987 : decode cX11_init 987 = .ok (.newarray .int, 2) := by decide +kernel
theorem dX11_init_989 : decode cX11_init 989 = .ok (.putfield 70, 3) := by decide +kernel
theorem dX11_init_992 : decode cX11_init 992 = .ok (.iconst 0, 1) := by decide +kernel
theorem dX11_init_993 : decode cX11_init 993 = .ok (.istore_n 1, 1) := by decide +kernel
theorem dX11_init_994 : decode cX11_init 994 = .ok (.iload_n 1, 1) := by decide +kernel
theorem dX11_init_995 : decode cX11_init 995 = .ok (.bipush 40, 2) := by decide +kernel
theorem dX11_init_997 : decode cX11_init 997 = .ok (.if_icmp .ge 21, 3) := by decide +kernel
theorem dX11_init_1000 : decode cX11_init 1000 = .ok (.aload_n 0, 1) := by decide +kernel
theorem dX11_init_1001 : decode cX11_init 1001 = .ok (.getfield 22, 3) := by decide +kernel
theorem dX11_init_1004 : decode cX11_init 1004 = .ok (.iload_n 1, 1) := by decide +kernel
theorem dX11_init_1005 : decode cX11_init 1005 = .ok (.aload_n 0, 1) := by decide +kernel
theorem dX11_init_1006 : decode cX11_init 1006 = .ok (.getfield 49, 3) := by decide +kernel
theorem dX11_init_1009 : decode cX11_init 1009 = .ok (.iload_n 1, 1) := by decide +kernel
theorem dX11_init_1010 : decode cX11_init 1010 = .ok (.iaload, 1) := by decide +kernel
theorem dX11_init_1011 : decode cX11_init 1011 = .ok (.iastore, 1) := by decide +kernel
theorem dX11_init_1012 : decode cX11_init 1012 = .ok (.iinc 1 1, 3) := by decide +kernel
theorem dX11_init_1015 : decode cX11_init 1015 = .ok (.goto (-21), 3) := by decide +kernel
theorem dX11_init_1018 : decode cX11_init 1018 = .ok (.aload_n 0, 1) := by decide +kernel
theorem dX11_init_1019 : decode cX11_init 1019 = .ok (.bipush 40, 2) := by decide +kernel
theorem dX11_init_1021 : decode cX11_init 1021 = .ok (.putfield 73, 3) := by decide +kernel
theorem dX11_init_1024 : decode cX11_init 1024 = .ok (.aload_n 0, 1) := by decide +kernel
theorem dX11_init_1025 : decode cX11_init 1025 = .ok (.invokevirtual 77, 3) := by decide +kernel
theorem dX11_init_1028 : decode cX11_init 1028 = .ok (.pop, 1) := by decide +kernel
theorem dX11_init_1029 : decode cX11_init 1029 = .ok (.return_, 1) := by decide +kernel
theorem dX11_in_0 : decode cX11_in 0 = .ok (.iload_n 0, 1) := by decide +kernel
theorem dX11_in_1 : decode cX11_in 1 = .ok (.iload_n 1, 1) := by decide +kernel
theorem dX11_in_2 : decode cX11_in 2 = .ok (.if_icmp .lt 12, 3) := by decide +kernel
theorem dX11_in_5 : decode cX11_in 5 = .ok (.iload_n 0, 1) := by decide +kernel
theorem dX11_in_6 : decode cX11_in 6 = .ok (.iload_n 2, 1) := by decide +kernel
theorem dX11_in_7 : decode cX11_in 7 = .ok (.if_icmp .gt 7, 3) := by decide +kernel
theorem dX11_in_10 : decode cX11_in 10 = .ok (.iconst 1, 1) := by decide +kernel
theorem dX11_in_11 : decode cX11_in 11 = .ok (.goto 4, 3) := by decide +kernel
theorem dX11_in_14 : decode cX11_in 14 = .ok (.iconst 0, 1) := by decide +kernel
theorem dX11_in_15 : decode cX11_in 15 = .ok (.ireturn, 1) := by decide +kernel
theorem dX11_within_0 : decode cX11_within 0 = .ok (.iload_n 0, 1) := by decide +kernel
theorem dX11_within_1 : decode cX11_within 1 = .ok (.iload_n 1, 1) := by decide +kernel
theorem dX11_within_2 : decode cX11_within 2 = .ok (.if_icmp .ge 7, 3) := by decide +kernel
theorem dX11_within_5 : decode cX11_within 5 = .ok (.iload_n 1, 1) := by decide +kernel
theorem dX11_within_6 : decode cX11_within 6 = .ok (.goto 13, 3) := by decide +kernel
theorem dX11_within_9 : decode cX11_within 9 = .ok (.iload_n 0, 1) := by decide +kernel
theorem dX11_within_10 : decode cX11_within 10 = .ok (.iload_n 2, 1) := by decide +kernel
theorem dX11_within_11 : decode cX11_within 11 = .ok (.if_icmp .le 7, 3) := by decide +kernel
theorem dX11_within_14 : decode cX11_within 14 = .ok (.iload_n 2, 1) := by decide +kernel
theorem dX11_within_15 : decode cX11_within 15 = .ok (.goto 4, 3) := by decide +kernel
theorem dX11_within_18 : decode cX11_within 18 = .ok (.iload_n 0, 1) := by decide +kernel
theorem dX11_within_19 : decode cX11_within 19 = .ok (.ireturn, 1) := by decide +kernel
theorem dX11_ones_0 : decode cX11_ones 0 = .ok (.iconst 0, 1) := by decide +kernel
theorem dX11_ones_1 : decode cX11_ones 1 = .ok (.istore_n 1, 1) := by decide +kernel
theorem dX11_ones_2 : decode cX11_ones 2 = .ok (.iconst 0, 1) := by decide +kernel
theorem dX11_ones_3 : decode cX11_ones 3 = .ok (.istore_n 2, 1) := by decide +kernel
theorem dX11_ones_4 : decode cX11_ones 4 = .ok (.iload_n 2, 1) := by decide +kernel
theorem dX11_ones_5 : decode cX11_ones 5 = .ok (.bipush 10, 2) := by decide +kernel
theorem dX11_ones_7 : decode cX11_ones 7 = .ok (.if_icmp .ge 17, 3) := by decide +kernel
theorem dX11_ones_10 : decode cX11_ones 10 = .ok (.iload_n 1, 1) := by decide +kernel
theorem dX11_ones_11 : decode cX11_ones 11 = .ok (.iload_n 0, 1) := by decide +kernel
theorem dX11_ones_12 : decode cX11_ones 12 = .ok (.iload_n 2, 1) := by decide +kernel
theorem dX11_ones_13 : decode cX11_ones 13 = .ok (.ishr, 1) := by decide +kernel
theorem dX11_ones_14 : decode cX11_ones 14 = .ok (.iconst 1, 1) := by decide +kernel
theorem dX11_ones_15 : decode cX11_ones 15 = .ok (.iand, 1) := by decide +kernel
theorem dX11_ones_16 : decode cX11_ones 16 = .ok (.iadd, 1) := by decide +kernel
theorem dX11_ones_17 : decode cX11_ones 17 = .ok (.istore_n 1, 1) := by decide +kernel
theorem dX11_ones_18 : decode cX11_ones 18 = .ok (.iinc 2 1, 3) := by decide +kernel
theorem dX11_ones_21 : decode cX11_ones 21 = .ok (.goto (-17), 3) := by decide +kernel
theorem dX11_ones_24 : decode cX11_ones 24 = .ok (.iload_n 1, 1) := by decide +kernel
theorem dX11_ones_25 : decode cX11_ones 25 = .ok (.ireturn, 1) := by decide +kernel
theorem dX11_isEater_0 : decode cX11_isEater 0 = .ok (.iload_n 1, 1) := by decide +kernel
theorem dX11_isEater_1 : decode cX11_isEater 1 = .ok (.iconst 0, 1) := by decide +kernel
theorem dX11_isEater_2 : decode cX11_isEater 2 = .ok (.aload_n 0, 1) := by decide +kernel
theorem dX11_isEater_3 : decode cX11_isEater 3 = .ok (.getfield 81, 3) := by decide +kernel
theorem dX11_isEater_6 : decode cX11_isEater 6 = .ok (.iconst 1, 1) := by decide +kernel
theorem dX11_isEater_7 : decode cX11_isEater 7 = .ok (.isub, 1) := by decide +kernel
theorem dX11_isEater_8 : decode cX11_isEater 8 = .ok (.invokestatic 84, 3) := by decide +kernel
theorem dX11_isEater_11 : decode cX11_isEater 11 = .ok (.ireturn, 1) := by decide +kernel
theorem dX11_isGood_0 : decode cX11_isGood 0 = .ok (.iload_n 1, 1) := by decide +kernel
theorem dX11_isGood_1 : decode cX11_isGood 1 = .ok (.iconst 0, 1) := by decide +kernel
theorem dX11_isGood_2 : decode cX11_isGood 2 = .ok (.aload_n 0, 1) := by decide +kernel
theorem dX11_isGood_3 : decode cX11_isGood 3 = .ok (.getfield 88, 3) := by decide +kernel
theorem dX11_isGood_6 : decode cX11_isGood 6 = .ok (.iconst 1, 1) := by decide +kernel
theorem dX11_isGood_7 : decode cX11_isGood 7 = .ok (.isub, 1) := by decide +kernel
theorem dX11_isGood_8 : decode cX11_isGood 8 = .ok (.invokestatic 84, 3) := by decide +kernel
theorem dX11_isGood_11 : decode cX11_isGood 11 = .ok (.ireturn, 1) := by decide +kernel
theorem dX11_isPlace_0 : decode cX11_isPlace 0 = .ok (.iload_n 0, 1) := by decide +kernel
theorem dX11_isPlace_1 : decode cX11_isPlace 1 = .ok (.iconst 0, 1) := by decide +kernel
theorem dX11_isPlace_2 : decode cX11_isPlace 2 = .ok (.bipush 15, 2) := by decide +kernel
theorem dX11_isPlace_4 : decode cX11_isPlace 4 = .ok (.invokestatic 84, 3) := by decide +kernel
theorem dX11_isPlace_7 : decode cX11_isPlace 7 = .ok (.ireturn, 1) := by decide +kernel
theorem dX11_count_0 : decode cX11_count 0 = .ok (.iload_n 1, 1) := by decide +kernel
theorem dX11_count_1 : decode cX11_count 1 = .ok (.tableswitch 69 0 5 #[39, 44, 49, 54, 59, 64], 39) := by decide +kernel
theorem dX11_count_40 : decode cX11_count 40 = .ok (.aload_n 0, 1) := by decide +kernel
theorem dX11_count_41 : decode cX11_count 41 = .ok (.getfield 81, 3) := by decide +kernel
theorem dX11_count_44 : decode cX11_count 44 = .ok (.ireturn, 1) := by decide +kernel
theorem dX11_count_45 : decode cX11_count 45 = .ok (.aload_n 0, 1) := by decide +kernel
theorem dX11_count_46 : decode cX11_count 46 = .ok (.getfield 88, 3) := by decide +kernel
theorem dX11_count_49 : decode cX11_count 49 = .ok (.ireturn, 1) := by decide +kernel
theorem dX11_count_50 : decode cX11_count 50 = .ok (.aload_n 0, 1) := by decide +kernel
theorem dX11_count_51 : decode cX11_count 51 = .ok (.getfield 91, 3) := by decide +kernel
theorem dX11_count_54 : decode cX11_count 54 = .ok (.ireturn, 1) := by decide +kernel
theorem dX11_count_55 : decode cX11_count 55 = .ok (.aload_n 0, 1) := by decide +kernel
theorem dX11_count_56 : decode cX11_count 56 = .ok (.getfield 94, 3) := by decide +kernel
theorem dX11_count_59 : decode cX11_count 59 = .ok (.ireturn, 1) := by decide +kernel
theorem dX11_count_60 : decode cX11_count 60 = .ok (.aload_n 0, 1) := by decide +kernel
theorem dX11_count_61 : decode cX11_count 61 = .ok (.getfield 97, 3) := by decide +kernel
theorem dX11_count_64 : decode cX11_count 64 = .ok (.ireturn, 1) := by decide +kernel
theorem dX11_count_65 : decode cX11_count 65 = .ok (.aload_n 0, 1) := by decide +kernel
theorem dX11_count_66 : decode cX11_count 66 = .ok (.getfield 73, 3) := by decide +kernel
theorem dX11_count_69 : decode cX11_count 69 = .ok (.ireturn, 1) := by decide +kernel
theorem dX11_count_70 : decode cX11_count 70 = .ok (.bipush (-2), 2) := by decide +kernel
theorem dX11_count_72 : decode cX11_count 72 = .ok (.ireturn, 1) := by decide +kernel
theorem dX11_set_0 : decode cX11_set 0 = .ok (.iload_n 1, 1) := by decide +kernel
theorem dX11_set_1 : decode cX11_set 1 = .ok (.iconst 0, 1) := by decide +kernel
theorem dX11_set_2 : decode cX11_set 2 = .ok (.bipush 99, 2) := by decide +kernel
theorem dX11_set_4 : decode cX11_set 4 = .ok (.invokestatic 84, 3) := by decide +kernel
theorem dX11_set_7 : decode cX11_set 7 = .ok (.ifCond .ne 6, 3) := by decide +kernel
theorem dX11_set_10 : decode cX11_set 10 = .ok (.bipush (-7), 2) := by decide +kernel
theorem dX11_set_12 : decode cX11_set 12 = .ok (.ireturn, 1) := by decide +kernel
theorem dX11_set_13 : decode cX11_set 13 = .ok (.aload_n 0, 1) := by decide +kernel
theorem dX11_set_14 : decode cX11_set 14 = .ok (.getfield 91, 3) := by decide +kernel
theorem dX11_set_17 : decode cX11_set 17 = .ok (.istore_n 2, 1) := by decide +kernel
theorem dX11_set_18 : decode cX11_set 18 = .ok (.aload_n 0, 1) := by decide +kernel
theorem dX11_set_19 : decode cX11_set 19 = .ok (.iload_n 1, 1) := by decide +kernel
theorem dX11_set_20 : decode cX11_set 20 = .ok (.putfield 91, 3) := by decide +kernel
theorem dX11_set_23 : decode cX11_set 23 = .ok (.iload_n 2, 1) := by decide +kernel
theorem dX11_set_24 : decode cX11_set 24 = .ok (.ireturn, 1) := by decide +kernel
theorem dX11_isByte_0 : decode cX11_isByte 0 = .ok (.iload_n 0, 1) := by decide +kernel
theorem dX11_isByte_1 : decode cX11_isByte 1 = .ok (.iconst 0, 1) := by decide +kernel
theorem dX11_isByte_2 : decode cX11_isByte 2 = .ok (.sipush 255, 3) := by decide +kernel
theorem dX11_isByte_5 : decode cX11_isByte 5 = .ok (.invokestatic 84, 3) := by decide +kernel
theorem dX11_isByte_8 : decode cX11_isByte 8 = .ok (.ireturn, 1) := by decide +kernel
theorem dX11_feed_0 : decode cX11_feed 0 = .ok (.iload_n 1, 1) := by decide +kernel
theorem dX11_feed_1 : decode cX11_feed 1 = .ok (.iconst 1, 1) := by decide +kernel
theorem dX11_feed_2 : decode cX11_feed 2 = .ok (.iconst 5, 1) := by decide +kernel
theorem dX11_feed_3 : decode cX11_feed 3 = .ok (.invokestatic 84, 3) := by decide +kernel
theorem dX11_feed_6 : decode cX11_feed 6 = .ok (.ifCond .eq 41, 3) := by decide +kernel
theorem dX11_feed_9 : decode cX11_feed 9 = .ok (.iload_n 2, 1) := by decide +kernel
theorem dX11_feed_10 : decode cX11_feed 10 = .ok (.invokestatic 100, 3) := by decide +kernel
theorem dX11_feed_13 : decode cX11_feed 13 = .ok (.ifCond .eq 34, 3) := by decide +kernel
theorem dX11_feed_16 : decode cX11_feed 16 = .ok (.iload_n 3, 1) := by decide +kernel
theorem dX11_feed_17 : decode cX11_feed 17 = .ok (.invokestatic 100, 3) := by decide +kernel
theorem dX11_feed_20 : decode cX11_feed 20 = .ok (.ifCond .eq 27, 3) := by decide +kernel
theorem dX11_feed_23 : decode cX11_feed 23 = .ok (.iload 4, 2) := by decide +kernel
theorem dX11_feed_25 : decode cX11_feed 25 = .ok (.invokestatic 100, 3) := by decide +kernel
theorem dX11_feed_28 : decode cX11_feed 28 = .ok (.ifCond .eq 19, 3) := by decide +kernel
theorem dX11_feed_31 : decode cX11_feed 31 = .ok (.iload 5, 2) := by decide +kernel
theorem dX11_feed_33 : decode cX11_feed 33 = .ok (.invokestatic 100, 3) := by decide +kernel
theorem dX11_feed_36 : decode cX11_feed 36 = .ok (.ifCond .eq 11, 3) := by decide +kernel
theorem dX11_feed_39 : decode cX11_feed 39 = .ok (.iload 6, 2) := by decide +kernel
theorem dX11_feed_41 : decode cX11_feed 41 = .ok (.invokestatic 100, 3) := by decide +kernel
theorem dX11_feed_44 : decode cX11_feed 44 = .ok (.ifCond .ne 6, 3) := by decide +kernel
theorem dX11_feed_47 : decode cX11_feed 47 = .ok (.bipush (-2), 2) := by decide +kernel
theorem dX11_feed_49 : decode cX11_feed 49 = .ok (.ireturn, 1) := by decide +kernel
theorem dX11_feed_50 : decode cX11_feed 50 = .ok (.aload_n 0, 1) := by decide +kernel
theorem dX11_feed_51 : decode cX11_feed 51 = .ok (.getfield 73, 3) := by decide +kernel
theorem dX11_feed_54 : decode cX11_feed 54 = .ok (.iload_n 1, 1) := by decide +kernel
theorem dX11_feed_55 : decode cX11_feed 55 = .ok (.iadd, 1) := by decide +kernel
theorem dX11_feed_56 : decode cX11_feed 56 = .ok (.sipush 160, 3) := by decide +kernel
theorem dX11_feed_59 : decode cX11_feed 59 = .ok (.if_icmp .le 6, 3) := by decide +kernel
theorem dX11_feed_62 : decode cX11_feed 62 = .ok (.bipush (-4), 2) := by decide +kernel
theorem dX11_feed_64 : decode cX11_feed 64 = .ok (.ireturn, 1) := by decide +kernel
theorem dX11_feed_65 : decode cX11_feed 65 = .ok (.iconst 0, 1) := by decide +kernel
theorem dX11_feed_66 : decode cX11_feed 66 = .ok (.istore 7, 2) := by decide +kernel
theorem dX11_feed_68 : decode cX11_feed 68 = .ok (.iload 7, 2) := by decide +kernel
theorem dX11_feed_70 : decode cX11_feed 70 = .ok (.iload_n 1, 1) := by decide +kernel
theorem dX11_feed_71 : decode cX11_feed 71 = .ok (.if_icmp .ge 71, 3) := by decide +kernel
theorem dX11_feed_74 : decode cX11_feed 74 = .ok (.aload_n 0, 1) := by decide +kernel
theorem dX11_feed_75 : decode cX11_feed 75 = .ok (.getfield 22, 3) := by decide +kernel
theorem dX11_feed_78 : decode cX11_feed 78 = .ok (.aload_n 0, 1) := by decide +kernel
theorem dX11_feed_79 : decode cX11_feed 79 = .ok (.getfield 73, 3) := by decide +kernel
theorem dX11_feed_82 : decode cX11_feed 82 = .ok (.iload 7, 2) := by decide +kernel
theorem dX11_feed_84 : decode cX11_feed 84 = .ok (.ifCond .ne 7, 3) := by decide +kernel
theorem dX11_feed_87 : decode cX11_feed 87 = .ok (.iload_n 2, 1) := by decide +kernel
theorem dX11_feed_88 : decode cX11_feed 88 = .ok (.goto 37, 3) := by decide +kernel
theorem dX11_feed_91 : decode cX11_feed 91 = .ok (.iload 7, 2) := by decide +kernel
theorem dX11_feed_93 : decode cX11_feed 93 = .ok (.iconst 1, 1) := by decide +kernel
theorem dX11_feed_94 : decode cX11_feed 94 = .ok (.if_icmp .ne 7, 3) := by decide +kernel
theorem dX11_feed_97 : decode cX11_feed 97 = .ok (.iload_n 3, 1) := by decide +kernel
theorem dX11_feed_98 : decode cX11_feed 98 = .ok (.goto 27, 3) := by decide +kernel
theorem dX11_feed_101 : decode cX11_feed 101 = .ok (.iload 7, 2) := by decide +kernel
theorem dX11_feed_103 : decode cX11_feed 103 = .ok (.iconst 2, 1) := by decide +kernel
theorem dX11_feed_104 : decode cX11_feed 104 = .ok (.if_icmp .ne 8, 3) := by decide +kernel
theorem dX11_feed_107 : decode cX11_feed 107 = .ok (.iload 4, 2) := by decide +kernel
theorem dX11_feed_109 : decode cX11_feed 109 = .ok (.goto 16, 3) := by decide +kernel
theorem dX11_feed_112 : decode cX11_feed 112 = .ok (.iload 7, 2) := by decide +kernel
theorem dX11_feed_114 : decode cX11_feed 114 = .ok (.iconst 3, 1) := by decide +kernel
theorem dX11_feed_115 : decode cX11_feed 115 = .ok (.if_icmp .ne 8, 3) := by decide +kernel
theorem dX11_feed_118 : decode cX11_feed 118 = .ok (.iload 5, 2) := by decide +kernel
theorem dX11_feed_120 : decode cX11_feed 120 = .ok (.goto 5, 3) := by decide +kernel
theorem dX11_feed_123 : decode cX11_feed 123 = .ok (.iload 6, 2) := by decide +kernel
theorem dX11_feed_125 : decode cX11_feed 125 = .ok (.iastore, 1) := by decide +kernel
theorem dX11_feed_126 : decode cX11_feed 126 = .ok (.aload_n 0, 1) := by decide +kernel
theorem dX11_feed_127 : decode cX11_feed 127 = .ok (.dup, 1) := by decide +kernel
theorem dX11_feed_128 : decode cX11_feed 128 = .ok (.getfield 73, 3) := by decide +kernel
theorem dX11_feed_131 : decode cX11_feed 131 = .ok (.iconst 1, 1) := by decide +kernel
theorem dX11_feed_132 : decode cX11_feed 132 = .ok (.iadd, 1) := by decide +kernel
theorem dX11_feed_133 : decode cX11_feed 133 = .ok (.putfield 73, 3) := by decide +kernel
theorem dX11_feed_136 : decode cX11_feed 136 = .ok (.iinc 7 1, 3) := by decide +kernel
theorem dX11_feed_139 : decode cX11_feed 139 = .ok (.goto (-71), 3) := by decide +kernel
theorem dX11_feed_142 : decode cX11_feed 142 = .ok (.aload_n 0, 1) := by decide +kernel
theorem dX11_feed_143 : decode cX11_feed 143 = .ok (.getfield 73, 3) := by decide +kernel
theorem dX11_feed_146 : decode cX11_feed 146 = .ok (.ireturn, 1) := by decide +kernel
theorem dX11_wordFrom_0 : decode cX11_wordFrom 0 = .ok (.iconst 0, 1) := by decide +kernel
theorem dX11_wordFrom_1 : decode cX11_wordFrom 1 = .ok (.istore_n 3, 1) := by decide +kernel
theorem dX11_wordFrom_2 : decode cX11_wordFrom 2 = .ok (.iload_n 3, 1) := by decide +kernel
theorem dX11_wordFrom_3 : decode cX11_wordFrom 3 = .ok (.bipush 12, 2) := by decide +kernel
theorem dX11_wordFrom_5 : decode cX11_wordFrom 5 = .ok (.if_icmp .ge 96, 3) := by decide +kernel
theorem dX11_wordFrom_8 : decode cX11_wordFrom 8 = .ok (.iload_n 2, 1) := by decide +kernel
theorem dX11_wordFrom_9 : decode cX11_wordFrom 9 = .ok (.iload_n 1, 1) := by decide +kernel
theorem dX11_wordFrom_10 : decode cX11_wordFrom 10 = .ok (.isub, 1) := by decide +kernel
theorem dX11_wordFrom_11 : decode cX11_wordFrom 11 = .ok (.bipush 8, 2) := by decide +kernel
theorem dX11_wordFrom_13 : decode cX11_wordFrom 13 = .ok (.if_icmp .gt 7, 3) := by decide +kernel
theorem dX11_wordFrom_16 : decode cX11_wordFrom 16 = .ok (.iconst 1, 1) := by decide +kernel
theorem dX11_wordFrom_17 : decode cX11_wordFrom 17 = .ok (.goto 4, 3) := by decide +kernel
theorem dX11_wordFrom_20 : decode cX11_wordFrom 20 = .ok (.iconst 0, 1) := by decide +kernel
theorem dX11_wordFrom_21 : decode cX11_wordFrom 21 = .ok (.istore 4, 2) := by decide +kernel
theorem dX11_wordFrom_23 : decode cX11_wordFrom 23 = .ok (.iconst 0, 1) := by decide +kernel
theorem dX11_wordFrom_24 : decode cX11_wordFrom 24 = .ok (.istore 5, 2) := by decide +kernel
theorem dX11_wordFrom_26 : decode cX11_wordFrom 26 = .ok (.iload 5, 2) := by decide +kernel
theorem dX11_wordFrom_28 : decode cX11_wordFrom 28 = .ok (.bipush 8, 2) := by decide +kernel
theorem dX11_wordFrom_30 : decode cX11_wordFrom 30 = .ok (.if_icmp .ge 58, 3) := by decide +kernel
theorem dX11_wordFrom_33 : decode cX11_wordFrom 33 = .ok (.iload 4, 2) := by decide +kernel
theorem dX11_wordFrom_35 : decode cX11_wordFrom 35 = .ok (.ifCond .eq 53, 3) := by decide +kernel
theorem dX11_wordFrom_38 : decode cX11_wordFrom 38 = .ok (.aload_n 0, 1) := by decide +kernel
theorem dX11_wordFrom_39 : decode cX11_wordFrom 39 = .ok (.getfield 52, 3) := by decide +kernel
theorem dX11_wordFrom_42 : decode cX11_wordFrom 42 = .ok (.bipush 8, 2) := by decide +kernel
theorem dX11_wordFrom_44 : decode cX11_wordFrom 44 = .ok (.iload_n 3, 1) := by decide +kernel
theorem dX11_wordFrom_45 : decode cX11_wordFrom 45 = .ok (.imul, 1) := by decide +kernel
theorem dX11_wordFrom_46 : decode cX11_wordFrom 46 = .ok (.iload 5, 2) := by decide +kernel
theorem dX11_wordFrom_48 : decode cX11_wordFrom 48 = .ok (.iadd, 1) := by decide +kernel
theorem dX11_wordFrom_49 : decode cX11_wordFrom 49 = .ok (.iaload, 1) := by decide +kernel
theorem dX11_wordFrom_50 : decode cX11_wordFrom 50 = .ok (.iload_n 1, 1) := by decide +kernel
theorem dX11_wordFrom_51 : decode cX11_wordFrom 51 = .ok (.iload 5, 2) := by decide +kernel
theorem dX11_wordFrom_53 : decode cX11_wordFrom 53 = .ok (.iadd, 1) := by decide +kernel
theorem dX11_wordFrom_54 : decode cX11_wordFrom 54 = .ok (.iload_n 2, 1) := by decide +kernel
theorem dX11_wordFrom_55 : decode cX11_wordFrom 55 = .ok (.if_icmp .ge 15, 3) := by decide +kernel
theorem dX11_wordFrom_58 : decode cX11_wordFrom 58 = .ok (.aload_n 0, 1) := by decide +kernel
theorem dX11_wordFrom_59 : decode cX11_wordFrom 59 = .ok (.getfield 22, 3) := by decide +kernel
theorem dX11_wordFrom_62 : decode cX11_wordFrom 62 = .ok (.iload_n 1, 1) := by decide +kernel
theorem dX11_wordFrom_63 : decode cX11_wordFrom 63 = .ok (.iload 5, 2) := by decide +kernel
theorem dX11_wordFrom_65 : decode cX11_wordFrom 65 = .ok (.iadd, 1) := by decide +kernel
theorem dX11_wordFrom_66 : decode cX11_wordFrom 66 = .ok (.iaload, 1) := by decide +kernel
theorem dX11_wordFrom_67 : decode cX11_wordFrom 67 = .ok (.goto 5, 3) := by decide +kernel
theorem dX11_wordFrom_70 : decode cX11_wordFrom 70 = .ok (.bipush 32, 2) := by decide +kernel
theorem dX11_wordFrom_72 : decode cX11_wordFrom 72 = .ok (.if_icmp .ne 7, 3) := by decide +kernel
theorem dX11_wordFrom_75 : decode cX11_wordFrom 75 = .ok (.iconst 1, 1) := by decide +kernel
theorem dX11_wordFrom_76 : decode cX11_wordFrom 76 = .ok (.goto 4, 3) := by decide +kernel
theorem dX11_wordFrom_79 : decode cX11_wordFrom 79 = .ok (.iconst 0, 1) := by decide +kernel
theorem dX11_wordFrom_80 : decode cX11_wordFrom 80 = .ok (.istore 4, 2) := by decide +kernel
theorem dX11_wordFrom_82 : decode cX11_wordFrom 82 = .ok (.iinc 5 1, 3) := by decide +kernel
theorem dX11_wordFrom_85 : decode cX11_wordFrom 85 = .ok (.goto (-59), 3) := by decide +kernel
theorem dX11_wordFrom_88 : decode cX11_wordFrom 88 = .ok (.iload 4, 2) := by decide +kernel
theorem dX11_wordFrom_90 : decode cX11_wordFrom 90 = .ok (.ifCond .eq 5, 3) := by decide +kernel
theorem dX11_wordFrom_93 : decode cX11_wordFrom 93 = .ok (.iload_n 3, 1) := by decide +kernel
theorem dX11_wordFrom_94 : decode cX11_wordFrom 94 = .ok (.ireturn, 1) := by decide +kernel
theorem dX11_wordFrom_95 : decode cX11_wordFrom 95 = .ok (.iinc 3 1, 3) := by decide +kernel
theorem dX11_wordFrom_98 : decode cX11_wordFrom 98 = .ok (.goto (-96), 3) := by decide +kernel
theorem dX11_wordFrom_101 : decode cX11_wordFrom 101 = .ok (.bipush 12, 2) := by decide +kernel
theorem dX11_wordFrom_103 : decode cX11_wordFrom 103 = .ok (.ireturn, 1) := by decide +kernel
theorem dX11_next_0 : decode cX11_next 0 = .ok (.aload_n 0, 1) := by decide +kernel
theorem dX11_next_1 : decode cX11_next 1 = .ok (.getfield 104, 3) := by decide +kernel
theorem dX11_next_4 : decode cX11_next 4 = .ok (.aload_n 0, 1) := by decide +kernel
theorem dX11_next_5 : decode cX11_next 5 = .ok (.getfield 73, 3) := by decide +kernel
theorem dX11_next_8 : decode cX11_next 8 = .ok (.if_icmp .ge 44, 3) := by decide +kernel
theorem dX11_next_11 : decode cX11_next 11 = .ok (.aload_n 0, 1) := by decide +kernel
theorem dX11_next_12 : decode cX11_next 12 = .ok (.getfield 22, 3) := by decide +kernel
theorem dX11_next_15 : decode cX11_next 15 = .ok (.aload_n 0, 1) := by decide +kernel
theorem dX11_next_16 : decode cX11_next 16 = .ok (.getfield 104, 3) := by decide +kernel
theorem dX11_next_19 : decode cX11_next 19 = .ok (.iaload, 1) := by decide +kernel
theorem dX11_next_20 : decode cX11_next 20 = .ok (.bipush 32, 2) := by decide +kernel
theorem dX11_next_22 : decode cX11_next 22 = .ok (.if_icmp .eq 17, 3) := by decide +kernel
theorem dX11_next_25 : decode cX11_next 25 = .ok (.aload_n 0, 1) := by decide +kernel
theorem dX11_next_26 : decode cX11_next 26 = .ok (.getfield 22, 3) := by decide +kernel
theorem dX11_next_29 : decode cX11_next 29 = .ok (.aload_n 0, 1) := by decide +kernel
theorem dX11_next_30 : decode cX11_next 30 = .ok (.getfield 104, 3) := by decide +kernel
theorem dX11_next_33 : decode cX11_next 33 = .ok (.iaload, 1) := by decide +kernel
theorem dX11_next_34 : decode cX11_next 34 = .ok (.bipush 10, 2) := by decide +kernel
theorem dX11_next_36 : decode cX11_next 36 = .ok (.if_icmp .ne 16, 3) := by decide +kernel
theorem dX11_next_39 : decode cX11_next 39 = .ok (.aload_n 0, 1) := by decide +kernel
theorem dX11_next_40 : decode cX11_next 40 = .ok (.dup, 1) := by decide +kernel
theorem dX11_next_41 : decode cX11_next 41 = .ok (.getfield 104, 3) := by decide +kernel
theorem dX11_next_44 : decode cX11_next 44 = .ok (.iconst 1, 1) := by decide +kernel
theorem dX11_next_45 : decode cX11_next 45 = .ok (.iadd, 1) := by decide +kernel
theorem dX11_next_46 : decode cX11_next 46 = .ok (.putfield 104, 3) := by decide +kernel
theorem dX11_next_49 : decode cX11_next 49 = .ok (.goto (-49), 3) := by decide +kernel
theorem dX11_next_52 : decode cX11_next 52 = .ok (.aload_n 0, 1) := by decide +kernel
theorem dX11_next_53 : decode cX11_next 53 = .ok (.aload_n 0, 1) := by decide +kernel
theorem dX11_next_54 : decode cX11_next 54 = .ok (.getfield 104, 3) := by decide +kernel
theorem dX11_next_57 : decode cX11_next 57 = .ok (.putfield 107, 3) := by decide +kernel
theorem dX11_next_60 : decode cX11_next 60 = .ok (.aload_n 0, 1) := by decide +kernel
theorem dX11_next_61 : decode cX11_next 61 = .ok (.iconst 0, 1) := by decide +kernel
theorem dX11_next_62 : decode cX11_next 62 = .ok (.putfield 110, 3) := by decide +kernel
theorem dX11_next_65 : decode cX11_next 65 = .ok (.aload_n 0, 1) := by decide +kernel
theorem dX11_next_66 : decode cX11_next 66 = .ok (.iconst 0, 1) := by decide +kernel
theorem dX11_next_67 : decode cX11_next 67 = .ok (.putfield 113, 3) := by decide +kernel
theorem dX11_next_70 : decode cX11_next 70 = .ok (.aload_n 0, 1) := by decide +kernel
theorem dX11_next_71 : decode cX11_next 71 = .ok (.getfield 104, 3) := by decide +kernel
theorem dX11_next_74 : decode cX11_next 74 = .ok (.aload_n 0, 1) := by decide +kernel
theorem dX11_next_75 : decode cX11_next 75 = .ok (.getfield 73, 3) := by decide +kernel
theorem dX11_next_78 : decode cX11_next 78 = .ok (.if_icmp .ne 4, 3) := by decide +kernel
theorem dX11_next_81 : decode cX11_next 81 = .ok (.return_, 1) := by decide +kernel
theorem dX11_next_82 : decode cX11_next 82 = .ok (.aload_n 0, 1) := by decide +kernel
theorem dX11_next_83 : decode cX11_next 83 = .ok (.getfield 22, 3) := by decide +kernel
theorem dX11_next_86 : decode cX11_next 86 = .ok (.aload_n 0, 1) := by decide +kernel
theorem dX11_next_87 : decode cX11_next 87 = .ok (.getfield 104, 3) := by decide +kernel
theorem dX11_next_90 : decode cX11_next 90 = .ok (.iaload, 1) := by decide +kernel
theorem dX11_next_91 : decode cX11_next 91 = .ok (.istore_n 1, 1) := by decide +kernel
theorem dX11_next_92 : decode cX11_next 92 = .ok (.iload_n 1, 1) := by decide +kernel
theorem dX11_next_93 : decode cX11_next 93 = .ok (.bipush 97, 2) := by decide +kernel
theorem dX11_next_95 : decode cX11_next 95 = .ok (.bipush 122, 2) := by decide +kernel
theorem dX11_next_97 : decode cX11_next 97 = .ok (.invokestatic 84, 3) := by decide +kernel
theorem dX11_next_100 : decode cX11_next 100 = .ok (.ifCond .eq 117, 3) := by decide +kernel
theorem dX11_next_103 : decode cX11_next 103 = .ok (.aload_n 0, 1) := by decide +kernel
theorem dX11_next_104 : decode cX11_next 104 = .ok (.getfield 104, 3) := by decide +kernel
theorem dX11_next_107 : decode cX11_next 107 = .ok (.aload_n 0, 1) := by decide +kernel
theorem dX11_next_108 : decode cX11_next 108 = .ok (.getfield 73, 3) := by decide +kernel
theorem dX11_next_111 : decode cX11_next 111 = .ok (.if_icmp .ge 35, 3) := by decide +kernel
theorem dX11_next_114 : decode cX11_next 114 = .ok (.aload_n 0, 1) := by decide +kernel
theorem dX11_next_115 : decode cX11_next 115 = .ok (.getfield 22, 3) := by decide +kernel
theorem dX11_next_118 : decode cX11_next 118 = .ok (.aload_n 0, 1) := by decide +kernel
theorem dX11_next_119 : decode cX11_next 119 = .ok (.getfield 104, 3) := by decide +kernel
theorem dX11_next_122 : decode cX11_next 122 = .ok (.iaload, 1) := by decide +kernel
theorem dX11_next_123 : decode cX11_next 123 = .ok (.bipush 97, 2) := by decide +kernel
theorem dX11_next_125 : decode cX11_next 125 = .ok (.bipush 122, 2) := by decide +kernel
theorem dX11_next_127 : decode cX11_next 127 = .ok (.invokestatic 84, 3) := by decide +kernel
theorem dX11_next_130 : decode cX11_next 130 = .ok (.ifCond .eq 16, 3) := by decide +kernel
theorem dX11_next_133 : decode cX11_next 133 = .ok (.aload_n 0, 1) := by decide +kernel
theorem dX11_next_134 : decode cX11_next 134 = .ok (.dup, 1) := by decide +kernel
theorem dX11_next_135 : decode cX11_next 135 = .ok (.getfield 104, 3) := by decide +kernel
theorem dX11_next_138 : decode cX11_next 138 = .ok (.iconst 1, 1) := by decide +kernel
theorem dX11_next_139 : decode cX11_next 139 = .ok (.iadd, 1) := by decide +kernel
theorem dX11_next_140 : decode cX11_next 140 = .ok (.putfield 104, 3) := by decide +kernel
theorem dX11_next_143 : decode cX11_next 143 = .ok (.goto (-40), 3) := by decide +kernel
theorem dX11_next_146 : decode cX11_next 146 = .ok (.aload_n 0, 1) := by decide +kernel
theorem dX11_next_147 : decode cX11_next 147 = .ok (.aload_n 0, 1) := by decide +kernel
theorem dX11_next_148 : decode cX11_next 148 = .ok (.getfield 107, 3) := by decide +kernel
theorem dX11_next_151 : decode cX11_next 151 = .ok (.aload_n 0, 1) := by decide +kernel
theorem dX11_next_152 : decode cX11_next 152 = .ok (.getfield 104, 3) := by decide +kernel
theorem dX11_next_155 : decode cX11_next 155 = .ok (.invokevirtual 116, 3) := by decide +kernel
theorem dX11_next_158 : decode cX11_next 158 = .ok (.istore_n 2, 1) := by decide +kernel
theorem dX11_next_159 : decode cX11_next 159 = .ok (.aload_n 0, 1) := by decide +kernel
theorem dX11_next_160 : decode cX11_next 160 = .ok (.iload_n 2, 1) := by decide +kernel
theorem dX11_next_161 : decode cX11_next 161 = .ok (.iconst 3, 1) := by decide +kernel
theorem dX11_next_162 : decode cX11_next 162 = .ok (.if_icmp .ge 7, 3) := by decide +kernel
theorem dX11_next_165 : decode cX11_next 165 = .ok (.iconst 3, 1) := by decide +kernel
theorem dX11_next_166 : decode cX11_next 166 = .ok (.goto 29, 3) := by decide +kernel
theorem dX11_next_169 : decode cX11_next 169 = .ok (.iload_n 2, 1) := by decide +kernel
theorem dX11_next_170 : decode cX11_next 170 = .ok (.bipush 9, 2) := by decide +kernel
theorem dX11_next_172 : decode cX11_next 172 = .ok (.if_icmp .ge 7, 3) := by decide +kernel
theorem dX11_next_175 : decode cX11_next 175 = .ok (.iconst 2, 1) := by decide +kernel
theorem dX11_next_176 : decode cX11_next 176 = .ok (.goto 19, 3) := by decide +kernel
theorem dX11_next_179 : decode cX11_next 179 = .ok (.iload_n 2, 1) := by decide +kernel
theorem dX11_next_180 : decode cX11_next 180 = .ok (.bipush 12, 2) := by decide +kernel
theorem dX11_next_182 : decode cX11_next 182 = .ok (.if_icmp .ne 7, 3) := by decide +kernel
theorem dX11_next_185 : decode cX11_next 185 = .ok (.iconst (-1), 1) := by decide +kernel
theorem dX11_next_186 : decode cX11_next 186 = .ok (.goto 9, 3) := by decide +kernel
theorem dX11_next_189 : decode cX11_next 189 = .ok (.iconst 4, 1) := by decide +kernel
theorem dX11_next_190 : decode cX11_next 190 = .ok (.iload_n 2, 1) := by decide +kernel
theorem dX11_next_191 : decode cX11_next 191 = .ok (.iadd, 1) := by decide +kernel
theorem dX11_next_192 : decode cX11_next 192 = .ok (.bipush 9, 2) := by decide +kernel
theorem dX11_next_194 : decode cX11_next 194 = .ok (.isub, 1) := by decide +kernel
theorem dX11_next_195 : decode cX11_next 195 = .ok (.putfield 110, 3) := by decide +kernel
theorem dX11_next_198 : decode cX11_next 198 = .ok (.aload_n 0, 1) := by decide +kernel
theorem dX11_next_199 : decode cX11_next 199 = .ok (.iload_n 2, 1) := by decide +kernel
theorem dX11_next_200 : decode cX11_next 200 = .ok (.iconst 3, 1) := by decide +kernel
theorem dX11_next_201 : decode cX11_next 201 = .ok (.if_icmp .ge 7, 3) := by decide +kernel
theorem dX11_next_204 : decode cX11_next 204 = .ok (.iload_n 2, 1) := by decide +kernel
theorem dX11_next_205 : decode cX11_next 205 = .ok (.goto 6, 3) := by decide +kernel
theorem dX11_next_208 : decode cX11_next 208 = .ok (.iload_n 2, 1) := by decide +kernel
theorem dX11_next_209 : decode cX11_next 209 = .ok (.iconst 3, 1) := by decide +kernel
theorem dX11_next_210 : decode cX11_next 210 = .ok (.isub, 1) := by decide +kernel
theorem dX11_next_211 : decode cX11_next 211 = .ok (.putfield 113, 3) := by decide +kernel
theorem dX11_next_214 : decode cX11_next 214 = .ok (.goto 189, 3) := by decide +kernel
theorem dX11_next_217 : decode cX11_next 217 = .ok (.iload_n 1, 1) := by decide +kernel
theorem dX11_next_218 : decode cX11_next 218 = .ok (.bipush 48, 2) := by decide +kernel
theorem dX11_next_220 : decode cX11_next 220 = .ok (.bipush 57, 2) := by decide +kernel
theorem dX11_next_222 : decode cX11_next 222 = .ok (.invokestatic 84, 3) := by decide +kernel
theorem dX11_next_225 : decode cX11_next 225 = .ok (.ifCond .eq 101, 3) := by decide +kernel
theorem dX11_next_228 : decode cX11_next 228 = .ok (.iconst 0, 1) := by decide +kernel
theorem dX11_next_229 : decode cX11_next 229 = .ok (.istore_n 2, 1) := by decide +kernel
theorem dX11_next_230 : decode cX11_next 230 = .ok (.aload_n 0, 1) := by decide +kernel
theorem dX11_next_231 : decode cX11_next 231 = .ok (.getfield 104, 3) := by decide +kernel
theorem dX11_next_234 : decode cX11_next 234 = .ok (.aload_n 0, 1) := by decide +kernel
theorem dX11_next_235 : decode cX11_next 235 = .ok (.getfield 73, 3) := by decide +kernel
theorem dX11_next_238 : decode cX11_next 238 = .ok (.if_icmp .ge 71, 3) := by decide +kernel
theorem dX11_next_241 : decode cX11_next 241 = .ok (.aload_n 0, 1) := by decide +kernel
theorem dX11_next_242 : decode cX11_next 242 = .ok (.getfield 22, 3) := by decide +kernel
theorem dX11_next_245 : decode cX11_next 245 = .ok (.aload_n 0, 1) := by decide +kernel
theorem dX11_next_246 : decode cX11_next 246 = .ok (.getfield 104, 3) := by decide +kernel
theorem dX11_next_249 : decode cX11_next 249 = .ok (.iaload, 1) := by decide +kernel
theorem dX11_next_250 : decode cX11_next 250 = .ok (.bipush 48, 2) := by decide +kernel
theorem dX11_next_252 : decode cX11_next 252 = .ok (.bipush 57, 2) := by decide +kernel
theorem dX11_next_254 : decode cX11_next 254 = .ok (.invokestatic 84, 3) := by decide +kernel
theorem dX11_next_257 : decode cX11_next 257 = .ok (.ifCond .eq 52, 3) := by decide +kernel
theorem dX11_next_260 : decode cX11_next 260 = .ok (.aload_n 0, 1) := by decide +kernel
theorem dX11_next_261 : decode cX11_next 261 = .ok (.iload_n 2, 1) := by decide +kernel
theorem dX11_next_262 : decode cX11_next 262 = .ok (.iconst 4, 1) := by decide +kernel
theorem dX11_next_263 : decode cX11_next 263 = .ok (.if_icmp .ge 26, 3) := by decide +kernel
theorem dX11_next_266 : decode cX11_next 266 = .ok (.bipush 10, 2) := by decide +kernel
theorem dX11_next_268 : decode cX11_next 268 = .ok (.aload_n 0, 1) := by decide +kernel
theorem dX11_next_269 : decode cX11_next 269 = .ok (.getfield 113, 3) := by decide +kernel
theorem dX11_next_272 : decode cX11_next 272 = .ok (.imul, 1) := by decide +kernel
theorem dX11_next_273 : decode cX11_next 273 = .ok (.aload_n 0, 1) := by decide +kernel
theorem dX11_next_274 : decode cX11_next 274 = .ok (.getfield 22, 3) := by decide +kernel
theorem dX11_next_277 : decode cX11_next 277 = .ok (.aload_n 0, 1) := by decide +kernel
theorem dX11_next_278 : decode cX11_next 278 = .ok (.getfield 104, 3) := by decide +kernel
theorem dX11_next_281 : decode cX11_next 281 = .ok (.iaload, 1) := by decide +kernel
theorem dX11_next_282 : decode cX11_next 282 = .ok (.iadd, 1) := by decide +kernel
theorem dX11_next_283 : decode cX11_next 283 = .ok (.bipush 48, 2) := by decide +kernel
theorem dX11_next_285 : decode cX11_next 285 = .ok (.isub, 1) := by decide +kernel
theorem dX11_next_286 : decode cX11_next 286 = .ok (.goto 4, 3) := by decide +kernel
theorem dX11_next_289 : decode cX11_next 289 = .ok (.iconst 0, 1) := by decide +kernel
theorem dX11_next_290 : decode cX11_next 290 = .ok (.putfield 113, 3) := by decide +kernel
theorem dX11_next_293 : decode cX11_next 293 = .ok (.iinc 2 1, 3) := by decide +kernel
theorem dX11_next_296 : decode cX11_next 296 = .ok (.aload_n 0, 1) := by decide +kernel
theorem dX11_next_297 : decode cX11_next 297 = .ok (.dup, 1) := by decide +kernel
theorem dX11_next_298 : decode cX11_next 298 = .ok (.getfield 104, 3) := by decide +kernel
theorem dX11_next_301 : decode cX11_next 301 = .ok (.iconst 1, 1) := by decide +kernel
theorem dX11_next_302 : decode cX11_next 302 = .ok (.iadd, 1) := by decide +kernel
theorem dX11_next_303 : decode cX11_next 303 = .ok (.putfield 104, 3) := by decide +kernel
theorem dX11_next_306 : decode cX11_next 306 = .ok (.goto (-76), 3) := by decide +kernel
theorem dX11_next_309 : decode cX11_next 309 = .ok (.aload_n 0, 1) := by decide +kernel
theorem dX11_next_310 : decode cX11_next 310 = .ok (.iload_n 2, 1) := by decide +kernel
theorem dX11_next_311 : decode cX11_next 311 = .ok (.iconst 4, 1) := by decide +kernel
theorem dX11_next_312 : decode cX11_next 312 = .ok (.if_icmp .le 7, 3) := by decide +kernel
theorem dX11_next_315 : decode cX11_next 315 = .ok (.iconst (-1), 1) := by decide +kernel
theorem dX11_next_316 : decode cX11_next 316 = .ok (.goto 4, 3) := by decide +kernel
theorem dX11_next_319 : decode cX11_next 319 = .ok (.iconst 1, 1) := by decide +kernel
theorem dX11_next_320 : decode cX11_next 320 = .ok (.putfield 110, 3) := by decide +kernel
theorem dX11_next_323 : decode cX11_next 323 = .ok (.goto 80, 3) := by decide +kernel
theorem dX11_next_326 : decode cX11_next 326 = .ok (.iload_n 1, 1) := by decide +kernel
theorem dX11_next_327 : decode cX11_next 327 = .ok (.bipush 40, 2) := by decide +kernel
theorem dX11_next_329 : decode cX11_next 329 = .ok (.if_icmp .eq 45, 3) := by decide +kernel
theorem dX11_next_332 : decode cX11_next 332 = .ok (.iload_n 1, 1) := by decide +kernel
theorem dX11_next_333 : decode cX11_next 333 = .ok (.bipush 41, 2) := by decide +kernel
theorem dX11_next_335 : decode cX11_next 335 = .ok (.if_icmp .eq 39, 3) := by decide +kernel
theorem dX11_next_338 : decode cX11_next 338 = .ok (.iload_n 1, 1) := by decide +kernel
theorem dX11_next_339 : decode cX11_next 339 = .ok (.bipush 59, 2) := by decide +kernel
theorem dX11_next_341 : decode cX11_next 341 = .ok (.if_icmp .eq 33, 3) := by decide +kernel
theorem dX11_next_344 : decode cX11_next 344 = .ok (.iload_n 1, 1) := by decide +kernel
theorem dX11_next_345 : decode cX11_next 345 = .ok (.bipush 43, 2) := by decide +kernel
theorem dX11_next_347 : decode cX11_next 347 = .ok (.if_icmp .eq 27, 3) := by decide +kernel
theorem dX11_next_350 : decode cX11_next 350 = .ok (.iload_n 1, 1) := by decide +kernel
theorem dX11_next_351 : decode cX11_next 351 = .ok (.bipush 45, 2) := by decide +kernel
theorem dX11_next_353 : decode cX11_next 353 = .ok (.if_icmp .eq 21, 3) := by decide +kernel
theorem dX11_next_356 : decode cX11_next 356 = .ok (.iload_n 1, 1) := by decide +kernel
theorem dX11_next_357 : decode cX11_next 357 = .ok (.bipush 42, 2) := by decide +kernel
theorem dX11_next_359 : decode cX11_next 359 = .ok (.if_icmp .eq 15, 3) := by decide +kernel
theorem dX11_next_362 : decode cX11_next 362 = .ok (.iload_n 1, 1) := by decide +kernel
theorem dX11_next_363 : decode cX11_next 363 = .ok (.bipush 60, 2) := by decide +kernel
theorem dX11_next_365 : decode cX11_next 365 = .ok (.if_icmp .eq 9, 3) := by decide +kernel
theorem dX11_next_368 : decode cX11_next 368 = .ok (.iload_n 1, 1) := by decide +kernel
theorem dX11_next_369 : decode cX11_next 369 = .ok (.bipush 61, 2) := by decide +kernel
theorem dX11_next_371 : decode cX11_next 371 = .ok (.if_icmp .ne 7, 3) := by decide +kernel
theorem dX11_next_374 : decode cX11_next 374 = .ok (.iconst 1, 1) := by decide +kernel
theorem dX11_next_375 : decode cX11_next 375 = .ok (.goto 4, 3) := by decide +kernel
theorem dX11_next_378 : decode cX11_next 378 = .ok (.iconst 0, 1) := by decide +kernel
theorem dX11_next_379 : decode cX11_next 379 = .ok (.istore_n 2, 1) := by decide +kernel
theorem dX11_next_380 : decode cX11_next 380 = .ok (.aload_n 0, 1) := by decide +kernel
theorem dX11_next_381 : decode cX11_next 381 = .ok (.iload_n 2, 1) := by decide +kernel
theorem dX11_next_382 : decode cX11_next 382 = .ok (.ifCond .eq 7, 3) := by decide +kernel
theorem dX11_next_385 : decode cX11_next 385 = .ok (.iload_n 1, 1) := by decide +kernel
theorem dX11_next_386 : decode cX11_next 386 = .ok (.goto 4, 3) := by decide +kernel
theorem dX11_next_389 : decode cX11_next 389 = .ok (.iconst (-1), 1) := by decide +kernel
theorem dX11_next_390 : decode cX11_next 390 = .ok (.putfield 110, 3) := by decide +kernel
theorem dX11_next_393 : decode cX11_next 393 = .ok (.aload_n 0, 1) := by decide +kernel
theorem dX11_next_394 : decode cX11_next 394 = .ok (.dup, 1) := by decide +kernel
theorem dX11_next_395 : decode cX11_next 395 = .ok (.getfield 104, 3) := by decide +kernel
theorem dX11_next_398 : decode cX11_next 398 = .ok (.iconst 1, 1) := by decide +kernel
theorem dX11_next_399 : decode cX11_next 399 = .ok (.iadd, 1) := by decide +kernel
theorem dX11_next_400 : decode cX11_next 400 = .ok (.putfield 104, 3) := by decide +kernel
theorem dX11_next_403 : decode cX11_next 403 = .ok (.return_, 1) := by decide +kernel
theorem dX11_rank_0 : decode cX11_rank 0 = .ok (.iload_n 0, 1) := by decide +kernel
theorem dX11_rank_1 : decode cX11_rank 1 = .ok (.ifCond .ne 7, 3) := by decide +kernel
theorem dX11_rank_4 : decode cX11_rank 4 = .ok (.iconst 0, 1) := by decide +kernel
theorem dX11_rank_5 : decode cX11_rank 5 = .ok (.goto 66, 3) := by decide +kernel
theorem dX11_rank_8 : decode cX11_rank 8 = .ok (.iload_n 0, 1) := by decide +kernel
theorem dX11_rank_9 : decode cX11_rank 9 = .ok (.bipush 11, 2) := by decide +kernel
theorem dX11_rank_11 : decode cX11_rank 11 = .ok (.if_icmp .ne 7, 3) := by decide +kernel
theorem dX11_rank_14 : decode cX11_rank 14 = .ok (.iconst 1, 1) := by decide +kernel
theorem dX11_rank_15 : decode cX11_rank 15 = .ok (.goto 56, 3) := by decide +kernel
theorem dX11_rank_18 : decode cX11_rank 18 = .ok (.iload_n 0, 1) := by decide +kernel
theorem dX11_rank_19 : decode cX11_rank 19 = .ok (.bipush 12, 2) := by decide +kernel
theorem dX11_rank_21 : decode cX11_rank 21 = .ok (.if_icmp .ne 7, 3) := by decide +kernel
theorem dX11_rank_24 : decode cX11_rank 24 = .ok (.iconst 2, 1) := by decide +kernel
theorem dX11_rank_25 : decode cX11_rank 25 = .ok (.goto 46, 3) := by decide +kernel
theorem dX11_rank_28 : decode cX11_rank 28 = .ok (.iload_n 0, 1) := by decide +kernel
theorem dX11_rank_29 : decode cX11_rank 29 = .ok (.bipush 13, 2) := by decide +kernel
theorem dX11_rank_31 : decode cX11_rank 31 = .ok (.if_icmp .ne 7, 3) := by decide +kernel
theorem dX11_rank_34 : decode cX11_rank 34 = .ok (.iconst 3, 1) := by decide +kernel
theorem dX11_rank_35 : decode cX11_rank 35 = .ok (.goto 36, 3) := by decide +kernel
theorem dX11_rank_38 : decode cX11_rank 38 = .ok (.iload_n 0, 1) := by decide +kernel
theorem dX11_rank_39 : decode cX11_rank 39 = .ok (.bipush 15, 2) := by decide +kernel
theorem dX11_rank_41 : decode cX11_rank 41 = .ok (.if_icmp .gt 7, 3) := by decide +kernel
theorem dX11_rank_44 : decode cX11_rank 44 = .ok (.iconst 4, 1) := by decide +kernel
theorem dX11_rank_45 : decode cX11_rank 45 = .ok (.goto 26, 3) := by decide +kernel
theorem dX11_rank_48 : decode cX11_rank 48 = .ok (.iload_n 0, 1) := by decide +kernel
theorem dX11_rank_49 : decode cX11_rank 49 = .ok (.bipush 17, 2) := by decide +kernel
theorem dX11_rank_51 : decode cX11_rank 51 = .ok (.if_icmp .gt 7, 3) := by decide +kernel
theorem dX11_rank_54 : decode cX11_rank 54 = .ok (.iconst 5, 1) := by decide +kernel
theorem dX11_rank_55 : decode cX11_rank 55 = .ok (.goto 16, 3) := by decide +kernel
theorem dX11_rank_58 : decode cX11_rank 58 = .ok (.iload_n 0, 1) := by decide +kernel
theorem dX11_rank_59 : decode cX11_rank 59 = .ok (.bipush 18, 2) := by decide +kernel
theorem dX11_rank_61 : decode cX11_rank 61 = .ok (.if_icmp .ne 8, 3) := by decide +kernel
theorem dX11_rank_64 : decode cX11_rank 64 = .ok (.bipush 6, 2) := by decide +kernel
theorem dX11_rank_66 : decode cX11_rank 66 = .ok (.goto 5, 3) := by decide +kernel
theorem dX11_rank_69 : decode cX11_rank 69 = .ok (.bipush 7, 2) := by decide +kernel
theorem dX11_rank_71 : decode cX11_rank 71 = .ok (.ireturn, 1) := by decide +kernel
theorem dX11_puts_0 : decode cX11_puts 0 = .ok (.aload_n 0, 1) := by decide +kernel
theorem dX11_puts_1 : decode cX11_puts 1 = .ok (.getfield 25, 3) := by decide +kernel
theorem dX11_puts_4 : decode cX11_puts 4 = .ok (.sipush 200, 3) := by decide +kernel
theorem dX11_puts_7 : decode cX11_puts 7 = .ok (.aload_n 0, 1) := by decide +kernel
theorem dX11_puts_8 : decode cX11_puts 8 = .ok (.getfield 94, 3) := by decide +kernel
theorem dX11_puts_11 : decode cX11_puts 11 = .ok (.imul, 1) := by decide +kernel
theorem dX11_puts_12 : decode cX11_puts 12 = .ok (.aload_n 0, 1) := by decide +kernel
theorem dX11_puts_13 : decode cX11_puts 13 = .ok (.getfield 120, 3) := by decide +kernel
theorem dX11_puts_16 : decode cX11_puts 16 = .ok (.iadd, 1) := by decide +kernel
theorem dX11_puts_17 : decode cX11_puts 17 = .ok (.iload_n 1, 1) := by decide +kernel
theorem dX11_puts_18 : decode cX11_puts 18 = .ok (.iastore, 1) := by decide +kernel
theorem dX11_puts_19 : decode cX11_puts 19 = .ok (.aload_n 0, 1) := by decide +kernel
theorem dX11_puts_20 : decode cX11_puts 20 = .ok (.dup, 1) := by decide +kernel
theorem dX11_puts_21 : decode cX11_puts 21 = .ok (.getfield 120, 3) := by decide +kernel
theorem dX11_puts_24 : decode cX11_puts 24 = .ok (.iconst 1, 1) := by decide +kernel
theorem dX11_puts_25 : decode cX11_puts 25 = .ok (.iadd, 1) := by decide +kernel
theorem dX11_puts_26 : decode cX11_puts 26 = .ok (.putfield 120, 3) := by decide +kernel
theorem dX11_puts_29 : decode cX11_puts 29 = .ok (.return_, 1) := by decide +kernel
theorem dX11_unwinds_0 : decode cX11_unwinds 0 = .ok (.aload_n 0, 1) := by decide +kernel
theorem dX11_unwinds_1 : decode cX11_unwinds 1 = .ok (.getfield 123, 3) := by decide +kernel
theorem dX11_unwinds_4 : decode cX11_unwinds 4 = .ok (.ifCond .le 75, 3) := by decide +kernel
theorem dX11_unwinds_7 : decode cX11_unwinds 7 = .ok (.aload_n 0, 1) := by decide +kernel
theorem dX11_unwinds_8 : decode cX11_unwinds 8 = .ok (.getfield 55, 3) := by decide +kernel
theorem dX11_unwinds_11 : decode cX11_unwinds 11 = .ok (.aload_n 0, 1) := by decide +kernel
theorem dX11_unwinds_12 : decode cX11_unwinds 12 = .ok (.getfield 123, 3) := by decide +kernel
theorem dX11_unwinds_15 : decode cX11_unwinds 15 = .ok (.iconst 1, 1) := by decide +kernel
theorem dX11_unwinds_16 : decode cX11_unwinds 16 = .ok (.isub, 1) := by decide +kernel
theorem dX11_unwinds_17 : decode cX11_unwinds 17 = .ok (.iaload, 1) := by decide +kernel
theorem dX11_unwinds_18 : decode cX11_unwinds 18 = .ok (.invokestatic 126, 3) := by decide +kernel
theorem dX11_unwinds_21 : decode cX11_unwinds 21 = .ok (.iload_n 1, 1) := by decide +kernel
theorem dX11_unwinds_22 : decode cX11_unwinds 22 = .ok (.if_icmp .lt 57, 3) := by decide +kernel
theorem dX11_unwinds_25 : decode cX11_unwinds 25 = .ok (.aload_n 0, 1) := by decide +kernel
theorem dX11_unwinds_26 : decode cX11_unwinds 26 = .ok (.dup, 1) := by decide +kernel
theorem dX11_unwinds_27 : decode cX11_unwinds 27 = .ok (.getfield 123, 3) := by decide +kernel
theorem dX11_unwinds_30 : decode cX11_unwinds 30 = .ok (.iconst 1, 1) := by decide +kernel
theorem dX11_unwinds_31 : decode cX11_unwinds 31 = .ok (.isub, 1) := by decide +kernel
theorem dX11_unwinds_32 : decode cX11_unwinds 32 = .ok (.putfield 123, 3) := by decide +kernel
theorem dX11_unwinds_35 : decode cX11_unwinds 35 = .ok (.aload_n 0, 1) := by decide +kernel
theorem dX11_unwinds_36 : decode cX11_unwinds 36 = .ok (.getfield 55, 3) := by decide +kernel
theorem dX11_unwinds_39 : decode cX11_unwinds 39 = .ok (.aload_n 0, 1) := by decide +kernel
theorem dX11_unwinds_40 : decode cX11_unwinds 40 = .ok (.getfield 123, 3) := by decide +kernel
theorem dX11_unwinds_43 : decode cX11_unwinds 43 = .ok (.iaload, 1) := by decide +kernel
theorem dX11_unwinds_44 : decode cX11_unwinds 44 = .ok (.istore_n 2, 1) := by decide +kernel
theorem dX11_unwinds_45 : decode cX11_unwinds 45 = .ok (.aload_n 0, 1) := by decide +kernel
theorem dX11_unwinds_46 : decode cX11_unwinds 46 = .ok (.dup, 1) := by decide +kernel
theorem dX11_unwinds_47 : decode cX11_unwinds 47 = .ok (.getfield 130, 3) := by decide +kernel
theorem dX11_unwinds_50 : decode cX11_unwinds 50 = .ok (.iload_n 2, 1) := by decide +kernel
theorem dX11_unwinds_51 : decode cX11_unwinds 51 = .ok (.bipush 13, 2) := by decide +kernel
theorem dX11_unwinds_53 : decode cX11_unwinds 53 = .ok (.if_icmp .eq 9, 3) := by decide +kernel
theorem dX11_unwinds_56 : decode cX11_unwinds 56 = .ok (.iload_n 2, 1) := by decide +kernel
theorem dX11_unwinds_57 : decode cX11_unwinds 57 = .ok (.bipush 19, 2) := by decide +kernel
theorem dX11_unwinds_59 : decode cX11_unwinds 59 = .ok (.if_icmp .ne 7, 3) := by decide +kernel
theorem dX11_unwinds_62 : decode cX11_unwinds 62 = .ok (.iconst 1, 1) := by decide +kernel
theorem dX11_unwinds_63 : decode cX11_unwinds 63 = .ok (.goto 4, 3) := by decide +kernel
theorem dX11_unwinds_66 : decode cX11_unwinds 66 = .ok (.iconst 0, 1) := by decide +kernel
theorem dX11_unwinds_67 : decode cX11_unwinds 67 = .ok (.isub, 1) := by decide +kernel
theorem dX11_unwinds_68 : decode cX11_unwinds 68 = .ok (.putfield 130, 3) := by decide +kernel
theorem dX11_unwinds_71 : decode cX11_unwinds 71 = .ok (.aload_n 0, 1) := by decide +kernel
theorem dX11_unwinds_72 : decode cX11_unwinds 72 = .ok (.iload_n 2, 1) := by decide +kernel
theorem dX11_unwinds_73 : decode cX11_unwinds 73 = .ok (.invokevirtual 133, 3) := by decide +kernel
theorem dX11_unwinds_76 : decode cX11_unwinds 76 = .ok (.goto (-76), 3) := by decide +kernel
theorem dX11_unwinds_79 : decode cX11_unwinds 79 = .ok (.return_, 1) := by decide +kernel
theorem dX11_holds_0 : decode cX11_holds 0 = .ok (.aload_n 0, 1) := by decide +kernel
theorem dX11_holds_1 : decode cX11_holds 1 = .ok (.getfield 55, 3) := by decide +kernel
theorem dX11_holds_4 : decode cX11_holds 4 = .ok (.aload_n 0, 1) := by decide +kernel
theorem dX11_holds_5 : decode cX11_holds 5 = .ok (.getfield 123, 3) := by decide +kernel
theorem dX11_holds_8 : decode cX11_holds 8 = .ok (.iload_n 1, 1) := by decide +kernel
theorem dX11_holds_9 : decode cX11_holds 9 = .ok (.iastore, 1) := by decide +kernel
theorem dX11_holds_10 : decode cX11_holds 10 = .ok (.aload_n 0, 1) := by decide +kernel
theorem dX11_holds_11 : decode cX11_holds 11 = .ok (.dup, 1) := by decide +kernel
theorem dX11_holds_12 : decode cX11_holds 12 = .ok (.getfield 123, 3) := by decide +kernel
theorem dX11_holds_15 : decode cX11_holds 15 = .ok (.iconst 1, 1) := by decide +kernel
theorem dX11_holds_16 : decode cX11_holds 16 = .ok (.iadd, 1) := by decide +kernel
theorem dX11_holds_17 : decode cX11_holds 17 = .ok (.putfield 123, 3) := by decide +kernel
theorem dX11_holds_20 : decode cX11_holds 20 = .ok (.return_, 1) := by decide +kernel
theorem dX11_opensOne_0 : decode cX11_opensOne 0 = .ok (.aload_n 0, 1) := by decide +kernel
theorem dX11_opensOne_1 : decode cX11_opensOne 1 = .ok (.getfield 130, 3) := by decide +kernel
theorem dX11_opensOne_4 : decode cX11_opensOne 4 = .ok (.iconst 5, 1) := by decide +kernel
theorem dX11_opensOne_5 : decode cX11_opensOne 5 = .ok (.if_icmp .ne 5, 3) := by decide +kernel
theorem dX11_opensOne_8 : decode cX11_opensOne 8 = .ok (.iconst 0, 1) := by decide +kernel
theorem dX11_opensOne_9 : decode cX11_opensOne 9 = .ok (.ireturn, 1) := by decide +kernel
theorem dX11_opensOne_10 : decode cX11_opensOne 10 = .ok (.aload_n 0, 1) := by decide +kernel
theorem dX11_opensOne_11 : decode cX11_opensOne 11 = .ok (.dup, 1) := by decide +kernel
theorem dX11_opensOne_12 : decode cX11_opensOne 12 = .ok (.getfield 130, 3) := by decide +kernel
theorem dX11_opensOne_15 : decode cX11_opensOne 15 = .ok (.iconst 1, 1) := by decide +kernel
theorem dX11_opensOne_16 : decode cX11_opensOne 16 = .ok (.iadd, 1) := by decide +kernel
theorem dX11_opensOne_17 : decode cX11_opensOne 17 = .ok (.putfield 130, 3) := by decide +kernel
theorem dX11_opensOne_20 : decode cX11_opensOne 20 = .ok (.aload_n 0, 1) := by decide +kernel
theorem dX11_opensOne_21 : decode cX11_opensOne 21 = .ok (.iload_n 1, 1) := by decide +kernel
theorem dX11_opensOne_22 : decode cX11_opensOne 22 = .ok (.invokevirtual 137, 3) := by decide +kernel
theorem dX11_opensOne_25 : decode cX11_opensOne 25 = .ok (.iconst 1, 1) := by decide +kernel
theorem dX11_opensOne_26 : decode cX11_opensOne 26 = .ok (.ireturn, 1) := by decide +kernel
theorem dX11_between_0 : decode cX11_between 0 = .ok (.aload_n 0, 1) := by decide +kernel
theorem dX11_between_1 : decode cX11_between 1 = .ok (.iload_n 1, 1) := by decide +kernel
theorem dX11_between_2 : decode cX11_between 2 = .ok (.invokestatic 126, 3) := by decide +kernel
theorem dX11_between_5 : decode cX11_between 5 = .ok (.iconst 4, 1) := by decide +kernel
theorem dX11_between_6 : decode cX11_between 6 = .ok (.if_icmp .ne 7, 3) := by decide +kernel
theorem dX11_between_9 : decode cX11_between 9 = .ok (.iconst 5, 1) := by decide +kernel
theorem dX11_between_10 : decode cX11_between 10 = .ok (.goto 7, 3) := by decide +kernel
theorem dX11_between_13 : decode cX11_between 13 = .ok (.iload_n 1, 1) := by decide +kernel
theorem dX11_between_14 : decode cX11_between 14 = .ok (.invokestatic 126, 3) := by decide +kernel
theorem dX11_between_17 : decode cX11_between 17 = .ok (.invokevirtual 140, 3) := by decide +kernel
theorem dX11_between_20 : decode cX11_between 20 = .ok (.iload_n 1, 1) := by decide +kernel
theorem dX11_between_21 : decode cX11_between 21 = .ok (.invokestatic 126, 3) := by decide +kernel
theorem dX11_between_24 : decode cX11_between 24 = .ok (.iconst 4, 1) := by decide +kernel
theorem dX11_between_25 : decode cX11_between 25 = .ok (.if_icmp .ne 30, 3) := by decide +kernel
theorem dX11_between_28 : decode cX11_between 28 = .ok (.aload_n 0, 1) := by decide +kernel
theorem dX11_between_29 : decode cX11_between 29 = .ok (.getfield 123, 3) := by decide +kernel
theorem dX11_between_32 : decode cX11_between 32 = .ok (.ifCond .le 23, 3) := by decide +kernel
theorem dX11_between_35 : decode cX11_between 35 = .ok (.aload_n 0, 1) := by decide +kernel
theorem dX11_between_36 : decode cX11_between 36 = .ok (.getfield 55, 3) := by decide +kernel
theorem dX11_between_39 : decode cX11_between 39 = .ok (.aload_n 0, 1) := by decide +kernel
theorem dX11_between_40 : decode cX11_between 40 = .ok (.getfield 123, 3) := by decide +kernel
theorem dX11_between_43 : decode cX11_between 43 = .ok (.iconst 1, 1) := by decide +kernel
theorem dX11_between_44 : decode cX11_between 44 = .ok (.isub, 1) := by decide +kernel
theorem dX11_between_45 : decode cX11_between 45 = .ok (.iaload, 1) := by decide +kernel
theorem dX11_between_46 : decode cX11_between 46 = .ok (.invokestatic 126, 3) := by decide +kernel
theorem dX11_between_49 : decode cX11_between 49 = .ok (.iconst 4, 1) := by decide +kernel
theorem dX11_between_50 : decode cX11_between 50 = .ok (.if_icmp .ne 5, 3) := by decide +kernel
theorem dX11_between_53 : decode cX11_between 53 = .ok (.iconst 0, 1) := by decide +kernel
theorem dX11_between_54 : decode cX11_between 54 = .ok (.ireturn, 1) := by decide +kernel
theorem dX11_between_55 : decode cX11_between 55 = .ok (.aload_n 0, 1) := by decide +kernel
theorem dX11_between_56 : decode cX11_between 56 = .ok (.iload_n 1, 1) := by decide +kernel
theorem dX11_between_57 : decode cX11_between 57 = .ok (.invokevirtual 137, 3) := by decide +kernel
theorem dX11_between_60 : decode cX11_between 60 = .ok (.iconst 1, 1) := by decide +kernel
theorem dX11_between_61 : decode cX11_between 61 = .ok (.ireturn, 1) := by decide +kernel
theorem dX11_signOf_0 : decode cX11_signOf 0 = .ok (.aload_n 0, 1) := by decide +kernel
theorem dX11_signOf_1 : decode cX11_signOf 1 = .ok (.getfield 110, 3) := by decide +kernel
theorem dX11_signOf_4 : decode cX11_signOf 4 = .ok (.iconst 4, 1) := by decide +kernel
theorem dX11_signOf_5 : decode cX11_signOf 5 = .ok (.if_icmp .ne 8, 3) := by decide +kernel
theorem dX11_signOf_8 : decode cX11_signOf 8 = .ok (.bipush 11, 2) := by decide +kernel
theorem dX11_signOf_10 : decode cX11_signOf 10 = .ok (.goto 87, 3) := by decide +kernel
theorem dX11_signOf_13 : decode cX11_signOf 13 = .ok (.aload_n 0, 1) := by decide +kernel
theorem dX11_signOf_14 : decode cX11_signOf 14 = .ok (.getfield 110, 3) := by decide +kernel
theorem dX11_signOf_17 : decode cX11_signOf 17 = .ok (.iconst 5, 1) := by decide +kernel
theorem dX11_signOf_18 : decode cX11_signOf 18 = .ok (.if_icmp .ne 8, 3) := by decide +kernel
theorem dX11_signOf_21 : decode cX11_signOf 21 = .ok (.bipush 12, 2) := by decide +kernel
theorem dX11_signOf_23 : decode cX11_signOf 23 = .ok (.goto 74, 3) := by decide +kernel
theorem dX11_signOf_26 : decode cX11_signOf 26 = .ok (.aload_n 0, 1) := by decide +kernel
theorem dX11_signOf_27 : decode cX11_signOf 27 = .ok (.getfield 110, 3) := by decide +kernel
theorem dX11_signOf_30 : decode cX11_signOf 30 = .ok (.bipush 60, 2) := by decide +kernel
theorem dX11_signOf_32 : decode cX11_signOf 32 = .ok (.if_icmp .ne 8, 3) := by decide +kernel
theorem dX11_signOf_35 : decode cX11_signOf 35 = .ok (.bipush 14, 2) := by decide +kernel
theorem dX11_signOf_37 : decode cX11_signOf 37 = .ok (.goto 60, 3) := by decide +kernel
theorem dX11_signOf_40 : decode cX11_signOf 40 = .ok (.aload_n 0, 1) := by decide +kernel
theorem dX11_signOf_41 : decode cX11_signOf 41 = .ok (.getfield 110, 3) := by decide +kernel
theorem dX11_signOf_44 : decode cX11_signOf 44 = .ok (.bipush 61, 2) := by decide +kernel
theorem dX11_signOf_46 : decode cX11_signOf 46 = .ok (.if_icmp .ne 8, 3) := by decide +kernel
theorem dX11_signOf_49 : decode cX11_signOf 49 = .ok (.bipush 15, 2) := by decide +kernel
theorem dX11_signOf_51 : decode cX11_signOf 51 = .ok (.goto 46, 3) := by decide +kernel
theorem dX11_signOf_54 : decode cX11_signOf 54 = .ok (.aload_n 0, 1) := by decide +kernel
theorem dX11_signOf_55 : decode cX11_signOf 55 = .ok (.getfield 110, 3) := by decide +kernel
theorem dX11_signOf_58 : decode cX11_signOf 58 = .ok (.bipush 43, 2) := by decide +kernel
theorem dX11_signOf_60 : decode cX11_signOf 60 = .ok (.if_icmp .ne 8, 3) := by decide +kernel
theorem dX11_signOf_63 : decode cX11_signOf 63 = .ok (.bipush 16, 2) := by decide +kernel
theorem dX11_signOf_65 : decode cX11_signOf 65 = .ok (.goto 32, 3) := by decide +kernel
theorem dX11_signOf_68 : decode cX11_signOf 68 = .ok (.aload_n 0, 1) := by decide +kernel
theorem dX11_signOf_69 : decode cX11_signOf 69 = .ok (.getfield 110, 3) := by decide +kernel
theorem dX11_signOf_72 : decode cX11_signOf 72 = .ok (.bipush 45, 2) := by decide +kernel
theorem dX11_signOf_74 : decode cX11_signOf 74 = .ok (.if_icmp .ne 8, 3) := by decide +kernel
theorem dX11_signOf_77 : decode cX11_signOf 77 = .ok (.bipush 17, 2) := by decide +kernel
theorem dX11_signOf_79 : decode cX11_signOf 79 = .ok (.goto 18, 3) := by decide +kernel
theorem dX11_signOf_82 : decode cX11_signOf 82 = .ok (.aload_n 0, 1) := by decide +kernel
theorem dX11_signOf_83 : decode cX11_signOf 83 = .ok (.getfield 110, 3) := by decide +kernel
theorem dX11_signOf_86 : decode cX11_signOf 86 = .ok (.bipush 42, 2) := by decide +kernel
theorem dX11_signOf_88 : decode cX11_signOf 88 = .ok (.if_icmp .ne 8, 3) := by decide +kernel
theorem dX11_signOf_91 : decode cX11_signOf 91 = .ok (.bipush 18, 2) := by decide +kernel
theorem dX11_signOf_93 : decode cX11_signOf 93 = .ok (.goto 4, 3) := by decide +kernel
theorem dX11_signOf_96 : decode cX11_signOf 96 = .ok (.iconst (-1), 1) := by decide +kernel
theorem dX11_signOf_97 : decode cX11_signOf 97 = .ok (.ireturn, 1) := by decide +kernel
theorem dX11_eRead_0 : decode cX11_eRead 0 = .ok (.aload_n 0, 1) := by decide +kernel
theorem dX11_eRead_1 : decode cX11_eRead 1 = .ok (.iconst 0, 1) := by decide +kernel
theorem dX11_eRead_2 : decode cX11_eRead 2 = .ok (.putfield 123, 3) := by decide +kernel
theorem dX11_eRead_5 : decode cX11_eRead 5 = .ok (.aload_n 0, 1) := by decide +kernel
theorem dX11_eRead_6 : decode cX11_eRead 6 = .ok (.iconst 0, 1) := by decide +kernel
theorem dX11_eRead_7 : decode cX11_eRead 7 = .ok (.putfield 130, 3) := by decide +kernel
theorem dX11_eRead_10 : decode cX11_eRead 10 = .ok (.iconst 1, 1) := by decide +kernel
theorem dX11_eRead_11 : decode cX11_eRead 11 = .ok (.istore_n 1, 1) := by decide +kernel
theorem dX11_eRead_12 : decode cX11_eRead 12 = .ok (.iconst 1, 1) := by decide +kernel
theorem dX11_eRead_13 : decode cX11_eRead 13 = .ok (.istore_n 2, 1) := by decide +kernel
theorem dX11_eRead_14 : decode cX11_eRead 14 = .ok (.aload_n 0, 1) := by decide +kernel
theorem dX11_eRead_15 : decode cX11_eRead 15 = .ok (.invokevirtual 143, 3) := by decide +kernel
theorem dX11_eRead_18 : decode cX11_eRead 18 = .ok (.iload_n 1, 1) := by decide +kernel
theorem dX11_eRead_19 : decode cX11_eRead 19 = .ok (.ifCond .eq 131, 3) := by decide +kernel
theorem dX11_eRead_22 : decode cX11_eRead 22 = .ok (.aload_n 0, 1) := by decide +kernel
theorem dX11_eRead_23 : decode cX11_eRead 23 = .ok (.getfield 110, 3) := by decide +kernel
theorem dX11_eRead_26 : decode cX11_eRead 26 = .ok (.iconst 1, 1) := by decide +kernel
theorem dX11_eRead_27 : decode cX11_eRead 27 = .ok (.if_icmp .eq 11, 3) := by decide +kernel
theorem dX11_eRead_30 : decode cX11_eRead 30 = .ok (.aload_n 0, 1) := by decide +kernel
theorem dX11_eRead_31 : decode cX11_eRead 31 = .ok (.getfield 110, 3) := by decide +kernel
theorem dX11_eRead_34 : decode cX11_eRead 34 = .ok (.iconst 2, 1) := by decide +kernel
theorem dX11_eRead_35 : decode cX11_eRead 35 = .ok (.if_icmp .ne 40, 3) := by decide +kernel
theorem dX11_eRead_38 : decode cX11_eRead 38 = .ok (.aload_n 0, 1) := by decide +kernel
theorem dX11_eRead_39 : decode cX11_eRead 39 = .ok (.aload_n 0, 1) := by decide +kernel
theorem dX11_eRead_40 : decode cX11_eRead 40 = .ok (.getfield 110, 3) := by decide +kernel
theorem dX11_eRead_43 : decode cX11_eRead 43 = .ok (.iconst 1, 1) := by decide +kernel
theorem dX11_eRead_44 : decode cX11_eRead 44 = .ok (.if_icmp .ne 13, 3) := by decide +kernel
theorem dX11_eRead_47 : decode cX11_eRead 47 = .ok (.ldc 146, 2) := by decide +kernel
theorem dX11_eRead_49 : decode cX11_eRead 49 = .ok (.aload_n 0, 1) := by decide +kernel
theorem dX11_eRead_50 : decode cX11_eRead 50 = .ok (.getfield 113, 3) := by decide +kernel
theorem dX11_eRead_53 : decode cX11_eRead 53 = .ok (.iadd, 1) := by decide +kernel
theorem dX11_eRead_54 : decode cX11_eRead 54 = .ok (.goto 7, 3) := by decide +kernel
theorem dX11_eRead_57 : decode cX11_eRead 57 = .ok (.aload_n 0, 1) := by decide +kernel
theorem dX11_eRead_58 : decode cX11_eRead 58 = .ok (.getfield 113, 3) := by decide +kernel
theorem dX11_eRead_61 : decode cX11_eRead 61 = .ok (.invokevirtual 133, 3) := by decide +kernel
theorem dX11_eRead_64 : decode cX11_eRead 64 = .ok (.aload_n 0, 1) := by decide +kernel
theorem dX11_eRead_65 : decode cX11_eRead 65 = .ok (.bipush 7, 2) := by decide +kernel
theorem dX11_eRead_67 : decode cX11_eRead 67 = .ok (.invokevirtual 140, 3) := by decide +kernel
theorem dX11_eRead_70 : decode cX11_eRead 70 = .ok (.iconst 0, 1) := by decide +kernel
theorem dX11_eRead_71 : decode cX11_eRead 71 = .ok (.istore_n 1, 1) := by decide +kernel
theorem dX11_eRead_72 : decode cX11_eRead 72 = .ok (.goto (-58), 3) := by decide +kernel
theorem dX11_eRead_75 : decode cX11_eRead 75 = .ok (.aload_n 0, 1) := by decide +kernel
theorem dX11_eRead_76 : decode cX11_eRead 76 = .ok (.getfield 110, 3) := by decide +kernel
theorem dX11_eRead_79 : decode cX11_eRead 79 = .ok (.bipush 6, 2) := by decide +kernel
theorem dX11_eRead_81 : decode cX11_eRead 81 = .ok (.if_icmp .ne 18, 3) := by decide +kernel
theorem dX11_eRead_84 : decode cX11_eRead 84 = .ok (.iload_n 2, 1) := by decide +kernel
theorem dX11_eRead_85 : decode cX11_eRead 85 = .ok (.ifCond .eq 14, 3) := by decide +kernel
theorem dX11_eRead_88 : decode cX11_eRead 88 = .ok (.aload_n 0, 1) := by decide +kernel
theorem dX11_eRead_89 : decode cX11_eRead 89 = .ok (.bipush 13, 2) := by decide +kernel
theorem dX11_eRead_91 : decode cX11_eRead 91 = .ok (.invokevirtual 147, 3) := by decide +kernel
theorem dX11_eRead_94 : decode cX11_eRead 94 = .ok (.ifCond .ne (-80), 3) := by decide +kernel
theorem dX11_eRead_97 : decode cX11_eRead 97 = .ok (.iconst 0, 1) := by decide +kernel
theorem dX11_eRead_98 : decode cX11_eRead 98 = .ok (.ireturn, 1) := by decide +kernel
theorem dX11_eRead_99 : decode cX11_eRead 99 = .ok (.aload_n 0, 1) := by decide +kernel
theorem dX11_eRead_100 : decode cX11_eRead 100 = .ok (.getfield 110, 3) := by decide +kernel
theorem dX11_eRead_103 : decode cX11_eRead 103 = .ok (.bipush 45, 2) := by decide +kernel
theorem dX11_eRead_105 : decode cX11_eRead 105 = .ok (.if_icmp .ne 19, 3) := by decide +kernel
theorem dX11_eRead_108 : decode cX11_eRead 108 = .ok (.aload_n 0, 1) := by decide +kernel
theorem dX11_eRead_109 : decode cX11_eRead 109 = .ok (.bipush 19, 2) := by decide +kernel
theorem dX11_eRead_111 : decode cX11_eRead 111 = .ok (.invokevirtual 147, 3) := by decide +kernel
theorem dX11_eRead_114 : decode cX11_eRead 114 = .ok (.ifCond .ne 5, 3) := by decide +kernel
theorem dX11_eRead_117 : decode cX11_eRead 117 = .ok (.iconst 0, 1) := by decide +kernel
theorem dX11_eRead_118 : decode cX11_eRead 118 = .ok (.ireturn, 1) := by decide +kernel
theorem dX11_eRead_119 : decode cX11_eRead 119 = .ok (.iconst 0, 1) := by decide +kernel
theorem dX11_eRead_120 : decode cX11_eRead 120 = .ok (.istore_n 2, 1) := by decide +kernel
theorem dX11_eRead_121 : decode cX11_eRead 121 = .ok (.goto (-107), 3) := by decide +kernel
theorem dX11_eRead_124 : decode cX11_eRead 124 = .ok (.aload_n 0, 1) := by decide +kernel
theorem dX11_eRead_125 : decode cX11_eRead 125 = .ok (.getfield 110, 3) := by decide +kernel
theorem dX11_eRead_128 : decode cX11_eRead 128 = .ok (.bipush 40, 2) := by decide +kernel
theorem dX11_eRead_130 : decode cX11_eRead 130 = .ok (.if_icmp .ne 18, 3) := by decide +kernel
theorem dX11_eRead_133 : decode cX11_eRead 133 = .ok (.aload_n 0, 1) := by decide +kernel
theorem dX11_eRead_134 : decode cX11_eRead 134 = .ok (.iconst 0, 1) := by decide +kernel
theorem dX11_eRead_135 : decode cX11_eRead 135 = .ok (.invokevirtual 147, 3) := by decide +kernel
theorem dX11_eRead_138 : decode cX11_eRead 138 = .ok (.ifCond .ne 5, 3) := by decide +kernel
theorem dX11_eRead_141 : decode cX11_eRead 141 = .ok (.iconst 0, 1) := by decide +kernel
theorem dX11_eRead_142 : decode cX11_eRead 142 = .ok (.ireturn, 1) := by decide +kernel
theorem dX11_eRead_143 : decode cX11_eRead 143 = .ok (.iconst 1, 1) := by decide +kernel
theorem dX11_eRead_144 : decode cX11_eRead 144 = .ok (.istore_n 2, 1) := by decide +kernel
theorem dX11_eRead_145 : decode cX11_eRead 145 = .ok (.goto (-131), 3) := by decide +kernel
theorem dX11_eRead_148 : decode cX11_eRead 148 = .ok (.iconst 0, 1) := by decide +kernel
theorem dX11_eRead_149 : decode cX11_eRead 149 = .ok (.ireturn, 1) := by decide +kernel
theorem dX11_eRead_150 : decode cX11_eRead 150 = .ok (.aload_n 0, 1) := by decide +kernel
theorem dX11_eRead_151 : decode cX11_eRead 151 = .ok (.getfield 110, 3) := by decide +kernel
theorem dX11_eRead_154 : decode cX11_eRead 154 = .ok (.bipush 59, 2) := by decide +kernel
theorem dX11_eRead_156 : decode cX11_eRead 156 = .ok (.if_icmp .ne 21, 3) := by decide +kernel
theorem dX11_eRead_159 : decode cX11_eRead 159 = .ok (.aload_n 0, 1) := by decide +kernel
theorem dX11_eRead_160 : decode cX11_eRead 160 = .ok (.iconst 1, 1) := by decide +kernel
theorem dX11_eRead_161 : decode cX11_eRead 161 = .ok (.invokevirtual 140, 3) := by decide +kernel
theorem dX11_eRead_164 : decode cX11_eRead 164 = .ok (.aload_n 0, 1) := by decide +kernel
theorem dX11_eRead_165 : decode cX11_eRead 165 = .ok (.getfield 123, 3) := by decide +kernel
theorem dX11_eRead_168 : decode cX11_eRead 168 = .ok (.ifCond .ne 7, 3) := by decide +kernel
theorem dX11_eRead_171 : decode cX11_eRead 171 = .ok (.iconst 1, 1) := by decide +kernel
theorem dX11_eRead_172 : decode cX11_eRead 172 = .ok (.goto 4, 3) := by decide +kernel
theorem dX11_eRead_175 : decode cX11_eRead 175 = .ok (.iconst 0, 1) := by decide +kernel
theorem dX11_eRead_176 : decode cX11_eRead 176 = .ok (.ireturn, 1) := by decide +kernel
theorem dX11_eRead_177 : decode cX11_eRead 177 = .ok (.aload_n 0, 1) := by decide +kernel
theorem dX11_eRead_178 : decode cX11_eRead 178 = .ok (.getfield 110, 3) := by decide +kernel
theorem dX11_eRead_181 : decode cX11_eRead 181 = .ok (.bipush 41, 2) := by decide +kernel
theorem dX11_eRead_183 : decode cX11_eRead 183 = .ok (.if_icmp .ne 46, 3) := by decide +kernel
theorem dX11_eRead_186 : decode cX11_eRead 186 = .ok (.aload_n 0, 1) := by decide +kernel
theorem dX11_eRead_187 : decode cX11_eRead 187 = .ok (.iconst 1, 1) := by decide +kernel
theorem dX11_eRead_188 : decode cX11_eRead 188 = .ok (.invokevirtual 140, 3) := by decide +kernel
theorem dX11_eRead_191 : decode cX11_eRead 191 = .ok (.aload_n 0, 1) := by decide +kernel
theorem dX11_eRead_192 : decode cX11_eRead 192 = .ok (.getfield 123, 3) := by decide +kernel
theorem dX11_eRead_195 : decode cX11_eRead 195 = .ok (.ifCond .ne 5, 3) := by decide +kernel
theorem dX11_eRead_198 : decode cX11_eRead 198 = .ok (.iconst 0, 1) := by decide +kernel
theorem dX11_eRead_199 : decode cX11_eRead 199 = .ok (.ireturn, 1) := by decide +kernel
theorem dX11_eRead_200 : decode cX11_eRead 200 = .ok (.aload_n 0, 1) := by decide +kernel
theorem dX11_eRead_201 : decode cX11_eRead 201 = .ok (.dup, 1) := by decide +kernel
theorem dX11_eRead_202 : decode cX11_eRead 202 = .ok (.getfield 123, 3) := by decide +kernel
theorem dX11_eRead_205 : decode cX11_eRead 205 = .ok (.iconst 1, 1) := by decide +kernel
theorem dX11_eRead_206 : decode cX11_eRead 206 = .ok (.isub, 1) := by decide +kernel
theorem dX11_eRead_207 : decode cX11_eRead 207 = .ok (.putfield 123, 3) := by decide +kernel
theorem dX11_eRead_210 : decode cX11_eRead 210 = .ok (.aload_n 0, 1) := by decide +kernel
theorem dX11_eRead_211 : decode cX11_eRead 211 = .ok (.dup, 1) := by decide +kernel
theorem dX11_eRead_212 : decode cX11_eRead 212 = .ok (.getfield 130, 3) := by decide +kernel
theorem dX11_eRead_215 : decode cX11_eRead 215 = .ok (.iconst 1, 1) := by decide +kernel
theorem dX11_eRead_216 : decode cX11_eRead 216 = .ok (.isub, 1) := by decide +kernel
theorem dX11_eRead_217 : decode cX11_eRead 217 = .ok (.putfield 130, 3) := by decide +kernel
theorem dX11_eRead_220 : decode cX11_eRead 220 = .ok (.aload_n 0, 1) := by decide +kernel
theorem dX11_eRead_221 : decode cX11_eRead 221 = .ok (.bipush 7, 2) := by decide +kernel
theorem dX11_eRead_223 : decode cX11_eRead 223 = .ok (.invokevirtual 140, 3) := by decide +kernel
theorem dX11_eRead_226 : decode cX11_eRead 226 = .ok (.goto (-212), 3) := by decide +kernel
theorem dX11_eRead_229 : decode cX11_eRead 229 = .ok (.aload_n 0, 1) := by decide +kernel
theorem dX11_eRead_230 : decode cX11_eRead 230 = .ok (.invokevirtual 150, 3) := by decide +kernel
theorem dX11_eRead_233 : decode cX11_eRead 233 = .ok (.istore_n 3, 1) := by decide +kernel
theorem dX11_eRead_234 : decode cX11_eRead 234 = .ok (.iload_n 3, 1) := by decide +kernel
theorem dX11_eRead_235 : decode cX11_eRead 235 = .ok (.iconst (-1), 1) := by decide +kernel
theorem dX11_eRead_236 : decode cX11_eRead 236 = .ok (.if_icmp .eq 11, 3) := by decide +kernel
theorem dX11_eRead_239 : decode cX11_eRead 239 = .ok (.aload_n 0, 1) := by decide +kernel
theorem dX11_eRead_240 : decode cX11_eRead 240 = .ok (.iload_n 3, 1) := by decide +kernel
theorem dX11_eRead_241 : decode cX11_eRead 241 = .ok (.invokevirtual 153, 3) := by decide +kernel
theorem dX11_eRead_244 : decode cX11_eRead 244 = .ok (.ifCond .ne 5, 3) := by decide +kernel
theorem dX11_eRead_247 : decode cX11_eRead 247 = .ok (.iconst 0, 1) := by decide +kernel
theorem dX11_eRead_248 : decode cX11_eRead 248 = .ok (.ireturn, 1) := by decide +kernel
theorem dX11_eRead_249 : decode cX11_eRead 249 = .ok (.iconst 1, 1) := by decide +kernel
theorem dX11_eRead_250 : decode cX11_eRead 250 = .ok (.istore_n 1, 1) := by decide +kernel
theorem dX11_eRead_251 : decode cX11_eRead 251 = .ok (.iload_n 3, 1) := by decide +kernel
theorem dX11_eRead_252 : decode cX11_eRead 252 = .ok (.bipush 12, 2) := by decide +kernel
theorem dX11_eRead_254 : decode cX11_eRead 254 = .ok (.if_icmp .gt 7, 3) := by decide +kernel
theorem dX11_eRead_257 : decode cX11_eRead 257 = .ok (.iconst 1, 1) := by decide +kernel
theorem dX11_eRead_258 : decode cX11_eRead 258 = .ok (.goto 4, 3) := by decide +kernel
theorem dX11_eRead_261 : decode cX11_eRead 261 = .ok (.iconst 0, 1) := by decide +kernel
theorem dX11_eRead_262 : decode cX11_eRead 262 = .ok (.istore_n 2, 1) := by decide +kernel
theorem dX11_eRead_263 : decode cX11_eRead 263 = .ok (.goto (-249), 3) := by decide +kernel
theorem dX11_text_0 : decode cX11_text 0 = .ok (.aload_n 0, 1) := by decide +kernel
theorem dX11_text_1 : decode cX11_text 1 = .ok (.getfield 94, 3) := by decide +kernel
theorem dX11_text_4 : decode cX11_text 4 = .ok (.bipush 6, 2) := by decide +kernel
theorem dX11_text_6 : decode cX11_text 6 = .ok (.if_icmp .ne 6, 3) := by decide +kernel
theorem dX11_text_9 : decode cX11_text 9 = .ok (.bipush (-4), 2) := by decide +kernel
theorem dX11_text_11 : decode cX11_text 11 = .ok (.ireturn, 1) := by decide +kernel
theorem dX11_text_12 : decode cX11_text 12 = .ok (.aload_n 0, 1) := by decide +kernel
theorem dX11_text_13 : decode cX11_text 13 = .ok (.iconst 0, 1) := by decide +kernel
theorem dX11_text_14 : decode cX11_text 14 = .ok (.putfield 104, 3) := by decide +kernel
theorem dX11_text_17 : decode cX11_text 17 = .ok (.aload_n 0, 1) := by decide +kernel
theorem dX11_text_18 : decode cX11_text 18 = .ok (.iconst 0, 1) := by decide +kernel
theorem dX11_text_19 : decode cX11_text 19 = .ok (.putfield 120, 3) := by decide +kernel
theorem dX11_text_22 : decode cX11_text 22 = .ok (.iconst 1, 1) := by decide +kernel
theorem dX11_text_23 : decode cX11_text 23 = .ok (.istore_n 1, 1) := by decide +kernel
theorem dX11_text_24 : decode cX11_text 24 = .ok (.iconst 0, 1) := by decide +kernel
theorem dX11_text_25 : decode cX11_text 25 = .ok (.istore_n 2, 1) := by decide +kernel
theorem dX11_text_26 : decode cX11_text 26 = .ok (.iload_n 2, 1) := by decide +kernel
theorem dX11_text_27 : decode cX11_text 27 = .ok (.iconst 3, 1) := by decide +kernel
theorem dX11_text_28 : decode cX11_text 28 = .ok (.if_icmp .ge 73, 3) := by decide +kernel
theorem dX11_text_31 : decode cX11_text 31 = .ok (.iload_n 1, 1) := by decide +kernel
theorem dX11_text_32 : decode cX11_text 32 = .ok (.ifCond .eq 69, 3) := by decide +kernel
theorem dX11_text_35 : decode cX11_text 35 = .ok (.aload_n 0, 1) := by decide +kernel
theorem dX11_text_36 : decode cX11_text 36 = .ok (.invokevirtual 143, 3) := by decide +kernel
theorem dX11_text_39 : decode cX11_text 39 = .ok (.aload_n 0, 1) := by decide +kernel
theorem dX11_text_40 : decode cX11_text 40 = .ok (.getfield 110, 3) := by decide +kernel
theorem dX11_text_43 : decode cX11_text 43 = .ok (.iconst 3, 1) := by decide +kernel
theorem dX11_text_44 : decode cX11_text 44 = .ok (.if_icmp .ne 15, 3) := by decide +kernel
theorem dX11_text_47 : decode cX11_text 47 = .ok (.aload_n 0, 1) := by decide +kernel
theorem dX11_text_48 : decode cX11_text 48 = .ok (.getfield 113, 3) := by decide +kernel
theorem dX11_text_51 : decode cX11_text 51 = .ok (.iload_n 2, 1) := by decide +kernel
theorem dX11_text_52 : decode cX11_text 52 = .ok (.if_icmp .ne 7, 3) := by decide +kernel
theorem dX11_text_55 : decode cX11_text 55 = .ok (.iconst 1, 1) := by decide +kernel
theorem dX11_text_56 : decode cX11_text 56 = .ok (.goto 4, 3) := by decide +kernel
theorem dX11_text_59 : decode cX11_text 59 = .ok (.iconst 0, 1) := by decide +kernel
theorem dX11_text_60 : decode cX11_text 60 = .ok (.istore_n 1, 1) := by decide +kernel
theorem dX11_text_61 : decode cX11_text 61 = .ok (.aload_n 0, 1) := by decide +kernel
theorem dX11_text_62 : decode cX11_text 62 = .ok (.getfield 28, 3) := by decide +kernel
theorem dX11_text_65 : decode cX11_text 65 = .ok (.iconst 4, 1) := by decide +kernel
theorem dX11_text_66 : decode cX11_text 66 = .ok (.aload_n 0, 1) := by decide +kernel
theorem dX11_text_67 : decode cX11_text 67 = .ok (.getfield 94, 3) := by decide +kernel
theorem dX11_text_70 : decode cX11_text 70 = .ok (.imul, 1) := by decide +kernel
theorem dX11_text_71 : decode cX11_text 71 = .ok (.iload_n 2, 1) := by decide +kernel
theorem dX11_text_72 : decode cX11_text 72 = .ok (.iadd, 1) := by decide +kernel
theorem dX11_text_73 : decode cX11_text 73 = .ok (.aload_n 0, 1) := by decide +kernel
theorem dX11_text_74 : decode cX11_text 74 = .ok (.getfield 120, 3) := by decide +kernel
theorem dX11_text_77 : decode cX11_text 77 = .ok (.iastore, 1) := by decide +kernel
theorem dX11_text_78 : decode cX11_text 78 = .ok (.iload_n 1, 1) := by decide +kernel
theorem dX11_text_79 : decode cX11_text 79 = .ok (.ifCond .eq 14, 3) := by decide +kernel
theorem dX11_text_82 : decode cX11_text 82 = .ok (.aload_n 0, 1) := by decide +kernel
theorem dX11_text_83 : decode cX11_text 83 = .ok (.invokevirtual 156, 3) := by decide +kernel
theorem dX11_text_86 : decode cX11_text 86 = .ok (.ifCond .eq 7, 3) := by decide +kernel
theorem dX11_text_89 : decode cX11_text 89 = .ok (.iconst 1, 1) := by decide +kernel
theorem dX11_text_90 : decode cX11_text 90 = .ok (.goto 4, 3) := by decide +kernel
theorem dX11_text_93 : decode cX11_text 93 = .ok (.iconst 0, 1) := by decide +kernel
theorem dX11_text_94 : decode cX11_text 94 = .ok (.istore_n 1, 1) := by decide +kernel
theorem dX11_text_95 : decode cX11_text 95 = .ok (.iinc 2 1, 3) := by decide +kernel
theorem dX11_text_98 : decode cX11_text 98 = .ok (.goto (-72), 3) := by decide +kernel
theorem dX11_text_101 : decode cX11_text 101 = .ok (.iload_n 1, 1) := by decide +kernel
theorem dX11_text_102 : decode cX11_text 102 = .ok (.ifCond .eq 20, 3) := by decide +kernel
theorem dX11_text_105 : decode cX11_text 105 = .ok (.aload_n 0, 1) := by decide +kernel
theorem dX11_text_106 : decode cX11_text 106 = .ok (.invokevirtual 143, 3) := by decide +kernel
theorem dX11_text_109 : decode cX11_text 109 = .ok (.aload_n 0, 1) := by decide +kernel
theorem dX11_text_110 : decode cX11_text 110 = .ok (.getfield 110, 3) := by decide +kernel
theorem dX11_text_113 : decode cX11_text 113 = .ok (.ifCond .ne 7, 3) := by decide +kernel
theorem dX11_text_116 : decode cX11_text 116 = .ok (.iconst 1, 1) := by decide +kernel
theorem dX11_text_117 : decode cX11_text 117 = .ok (.goto 4, 3) := by decide +kernel
theorem dX11_text_120 : decode cX11_text 120 = .ok (.iconst 0, 1) := by decide +kernel
theorem dX11_text_121 : decode cX11_text 121 = .ok (.istore_n 1, 1) := by decide +kernel
theorem dX11_text_122 : decode cX11_text 122 = .ok (.aload_n 0, 1) := by decide +kernel
theorem dX11_text_123 : decode cX11_text 123 = .ok (.getfield 28, 3) := by decide +kernel
theorem dX11_text_126 : decode cX11_text 126 = .ok (.iconst 4, 1) := by decide +kernel
theorem dX11_text_127 : decode cX11_text 127 = .ok (.aload_n 0, 1) := by decide +kernel
theorem dX11_text_128 : decode cX11_text 128 = .ok (.getfield 94, 3) := by decide +kernel
theorem dX11_text_131 : decode cX11_text 131 = .ok (.imul, 1) := by decide +kernel
theorem dX11_text_132 : decode cX11_text 132 = .ok (.iconst 3, 1) := by decide +kernel
theorem dX11_text_133 : decode cX11_text 133 = .ok (.iadd, 1) := by decide +kernel
theorem dX11_text_134 : decode cX11_text 134 = .ok (.aload_n 0, 1) := by decide +kernel
theorem dX11_text_135 : decode cX11_text 135 = .ok (.getfield 120, 3) := by decide +kernel
theorem dX11_text_138 : decode cX11_text 138 = .ok (.iastore, 1) := by decide +kernel
theorem dX11_text_139 : decode cX11_text 139 = .ok (.aload_n 0, 1) := by decide +kernel
theorem dX11_text_140 : decode cX11_text 140 = .ok (.iconst 0, 1) := by decide +kernel
theorem dX11_text_141 : decode cX11_text 141 = .ok (.putfield 73, 3) := by decide +kernel
theorem dX11_text_144 : decode cX11_text 144 = .ok (.iload_n 1, 1) := by decide +kernel
theorem dX11_text_145 : decode cX11_text 145 = .ok (.ifCond .ne 11, 3) := by decide +kernel
theorem dX11_text_148 : decode cX11_text 148 = .ok (.bipush (-100), 2) := by decide +kernel
theorem dX11_text_150 : decode cX11_text 150 = .ok (.aload_n 0, 1) := by decide +kernel
theorem dX11_text_151 : decode cX11_text 151 = .ok (.getfield 107, 3) := by decide +kernel
theorem dX11_text_154 : decode cX11_text 154 = .ok (.isub, 1) := by decide +kernel
theorem dX11_text_155 : decode cX11_text 155 = .ok (.ireturn, 1) := by decide +kernel
theorem dX11_text_156 : decode cX11_text 156 = .ok (.aload_n 0, 1) := by decide +kernel
theorem dX11_text_157 : decode cX11_text 157 = .ok (.dup, 1) := by decide +kernel
theorem dX11_text_158 : decode cX11_text 158 = .ok (.getfield 94, 3) := by decide +kernel
theorem dX11_text_161 : decode cX11_text 161 = .ok (.iconst 1, 1) := by decide +kernel
theorem dX11_text_162 : decode cX11_text 162 = .ok (.iadd, 1) := by decide +kernel
theorem dX11_text_163 : decode cX11_text 163 = .ok (.putfield 94, 3) := by decide +kernel
theorem dX11_text_166 : decode cX11_text 166 = .ok (.aload_n 0, 1) := by decide +kernel
theorem dX11_text_167 : decode cX11_text 167 = .ok (.getfield 94, 3) := by decide +kernel
theorem dX11_text_170 : decode cX11_text 170 = .ok (.iconst 1, 1) := by decide +kernel
theorem dX11_text_171 : decode cX11_text 171 = .ok (.isub, 1) := by decide +kernel
theorem dX11_text_172 : decode cX11_text 172 = .ok (.ireturn, 1) := by decide +kernel
theorem dX11_two_0 : decode cX11_two 0 = .ok (.iload_n 0, 1) := by decide +kernel
theorem dX11_two_1 : decode cX11_two 1 = .ok (.tableswitch 101 11 17 #[43, 57, 101, 71, 82, 93, 97], 43) := by decide +kernel
theorem dX11_two_44 : decode cX11_two 44 = .ok (.iload_n 1, 1) := by decide +kernel
theorem dX11_two_45 : decode cX11_two 45 = .ok (.ifCond .ne 7, 3) := by decide +kernel
theorem dX11_two_48 : decode cX11_two 48 = .ok (.iload_n 2, 1) := by decide +kernel
theorem dX11_two_49 : decode cX11_two 49 = .ok (.ifCond .eq 7, 3) := by decide +kernel
theorem dX11_two_52 : decode cX11_two 52 = .ok (.iconst 1, 1) := by decide +kernel
theorem dX11_two_53 : decode cX11_two 53 = .ok (.goto 4, 3) := by decide +kernel
theorem dX11_two_56 : decode cX11_two 56 = .ok (.iconst 0, 1) := by decide +kernel
theorem dX11_two_57 : decode cX11_two 57 = .ok (.ireturn, 1) := by decide +kernel
theorem dX11_two_58 : decode cX11_two 58 = .ok (.iload_n 1, 1) := by decide +kernel
theorem dX11_two_59 : decode cX11_two 59 = .ok (.ifCond .eq 11, 3) := by decide +kernel
theorem dX11_two_62 : decode cX11_two 62 = .ok (.iload_n 2, 1) := by decide +kernel
theorem dX11_two_63 : decode cX11_two 63 = .ok (.ifCond .eq 7, 3) := by decide +kernel
theorem dX11_two_66 : decode cX11_two 66 = .ok (.iconst 1, 1) := by decide +kernel
theorem dX11_two_67 : decode cX11_two 67 = .ok (.goto 4, 3) := by decide +kernel
theorem dX11_two_70 : decode cX11_two 70 = .ok (.iconst 0, 1) := by decide +kernel
theorem dX11_two_71 : decode cX11_two 71 = .ok (.ireturn, 1) := by decide +kernel
theorem dX11_two_72 : decode cX11_two 72 = .ok (.iload_n 1, 1) := by decide +kernel
theorem dX11_two_73 : decode cX11_two 73 = .ok (.iload_n 2, 1) := by decide +kernel
theorem dX11_two_74 : decode cX11_two 74 = .ok (.if_icmp .ge 7, 3) := by decide +kernel
theorem dX11_two_77 : decode cX11_two 77 = .ok (.iconst 1, 1) := by decide +kernel
theorem dX11_two_78 : decode cX11_two 78 = .ok (.goto 4, 3) := by decide +kernel
theorem dX11_two_81 : decode cX11_two 81 = .ok (.iconst 0, 1) := by decide +kernel
theorem dX11_two_82 : decode cX11_two 82 = .ok (.ireturn, 1) := by decide +kernel
theorem dX11_two_83 : decode cX11_two 83 = .ok (.iload_n 1, 1) := by decide +kernel
theorem dX11_two_84 : decode cX11_two 84 = .ok (.iload_n 2, 1) := by decide +kernel
theorem dX11_two_85 : decode cX11_two 85 = .ok (.if_icmp .ne 7, 3) := by decide +kernel
theorem dX11_two_88 : decode cX11_two 88 = .ok (.iconst 1, 1) := by decide +kernel
theorem dX11_two_89 : decode cX11_two 89 = .ok (.goto 4, 3) := by decide +kernel
theorem dX11_two_92 : decode cX11_two 92 = .ok (.iconst 0, 1) := by decide +kernel
theorem dX11_two_93 : decode cX11_two 93 = .ok (.ireturn, 1) := by decide +kernel
theorem dX11_two_94 : decode cX11_two 94 = .ok (.iload_n 1, 1) := by decide +kernel
theorem dX11_two_95 : decode cX11_two 95 = .ok (.iload_n 2, 1) := by decide +kernel
theorem dX11_two_96 : decode cX11_two 96 = .ok (.iadd, 1) := by decide +kernel
theorem dX11_two_97 : decode cX11_two 97 = .ok (.ireturn, 1) := by decide +kernel
theorem dX11_two_98 : decode cX11_two 98 = .ok (.iload_n 1, 1) := by decide +kernel
theorem dX11_two_99 : decode cX11_two 99 = .ok (.iload_n 2, 1) := by decide +kernel
theorem dX11_two_100 : decode cX11_two 100 = .ok (.isub, 1) := by decide +kernel
theorem dX11_two_101 : decode cX11_two 101 = .ok (.ireturn, 1) := by decide +kernel
theorem dX11_two_102 : decode cX11_two 102 = .ok (.iload_n 1, 1) := by decide +kernel
theorem dX11_two_103 : decode cX11_two 103 = .ok (.iload_n 2, 1) := by decide +kernel
theorem dX11_two_104 : decode cX11_two 104 = .ok (.imul, 1) := by decide +kernel
theorem dX11_two_105 : decode cX11_two 105 = .ok (.ireturn, 1) := by decide +kernel
theorem dX11_says_0 : decode cX11_says 0 = .ok (.iconst 0, 1) := by decide +kernel
theorem dX11_says_1 : decode cX11_says 1 = .ok (.istore_n 2, 1) := by decide +kernel
theorem dX11_says_2 : decode cX11_says 2 = .ok (.aload_n 0, 1) := by decide +kernel
theorem dX11_says_3 : decode cX11_says 3 = .ok (.getfield 28, 3) := by decide +kernel
theorem dX11_says_6 : decode cX11_says 6 = .ok (.iconst 4, 1) := by decide +kernel
theorem dX11_says_7 : decode cX11_says 7 = .ok (.aload_n 0, 1) := by decide +kernel
theorem dX11_says_8 : decode cX11_says 8 = .ok (.getfield 97, 3) := by decide +kernel
theorem dX11_says_11 : decode cX11_says 11 = .ok (.imul, 1) := by decide +kernel
theorem dX11_says_12 : decode cX11_says 12 = .ok (.iload_n 1, 1) := by decide +kernel
theorem dX11_says_13 : decode cX11_says 13 = .ok (.iadd, 1) := by decide +kernel
theorem dX11_says_14 : decode cX11_says 14 = .ok (.iaload, 1) := by decide +kernel
theorem dX11_says_15 : decode cX11_says 15 = .ok (.istore_n 3, 1) := by decide +kernel
theorem dX11_says_16 : decode cX11_says 16 = .ok (.iload_n 3, 1) := by decide +kernel
theorem dX11_says_17 : decode cX11_says 17 = .ok (.aload_n 0, 1) := by decide +kernel
theorem dX11_says_18 : decode cX11_says 18 = .ok (.getfield 28, 3) := by decide +kernel
theorem dX11_says_21 : decode cX11_says 21 = .ok (.iconst 4, 1) := by decide +kernel
theorem dX11_says_22 : decode cX11_says 22 = .ok (.aload_n 0, 1) := by decide +kernel
theorem dX11_says_23 : decode cX11_says 23 = .ok (.getfield 97, 3) := by decide +kernel
theorem dX11_says_26 : decode cX11_says 26 = .ok (.imul, 1) := by decide +kernel
theorem dX11_says_27 : decode cX11_says 27 = .ok (.iload_n 1, 1) := by decide +kernel
theorem dX11_says_28 : decode cX11_says 28 = .ok (.iadd, 1) := by decide +kernel
theorem dX11_says_29 : decode cX11_says 29 = .ok (.iconst 1, 1) := by decide +kernel
theorem dX11_says_30 : decode cX11_says 30 = .ok (.iadd, 1) := by decide +kernel
theorem dX11_says_31 : decode cX11_says 31 = .ok (.iaload, 1) := by decide +kernel
theorem dX11_says_32 : decode cX11_says 32 = .ok (.if_icmp .ge 165, 3) := by decide +kernel
theorem dX11_says_35 : decode cX11_says 35 = .ok (.aload_n 0, 1) := by decide +kernel
theorem dX11_says_36 : decode cX11_says 36 = .ok (.getfield 25, 3) := by decide +kernel
theorem dX11_says_39 : decode cX11_says 39 = .ok (.sipush 200, 3) := by decide +kernel
theorem dX11_says_42 : decode cX11_says 42 = .ok (.aload_n 0, 1) := by decide +kernel
theorem dX11_says_43 : decode cX11_says 43 = .ok (.getfield 97, 3) := by decide +kernel
theorem dX11_says_46 : decode cX11_says 46 = .ok (.imul, 1) := by decide +kernel
theorem dX11_says_47 : decode cX11_says 47 = .ok (.iload_n 3, 1) := by decide +kernel
theorem dX11_says_48 : decode cX11_says 48 = .ok (.iadd, 1) := by decide +kernel
theorem dX11_says_49 : decode cX11_says 49 = .ok (.iaload, 1) := by decide +kernel
theorem dX11_says_50 : decode cX11_says 50 = .ok (.istore 4, 2) := by decide +kernel
theorem dX11_says_52 : decode cX11_says 52 = .ok (.iload 4, 2) := by decide +kernel
theorem dX11_says_54 : decode cX11_says 54 = .ok (.ldc 146, 2) := by decide +kernel
theorem dX11_says_56 : decode cX11_says 56 = .ok (.if_icmp .ge 10, 3) := by decide +kernel
theorem dX11_says_59 : decode cX11_says 59 = .ok (.iload 4, 2) := by decide +kernel
theorem dX11_says_61 : decode cX11_says 61 = .ok (.bipush 11, 2) := by decide +kernel
theorem dX11_says_63 : decode cX11_says 63 = .ok (.if_icmp .ge 37, 3) := by decide +kernel
theorem dX11_says_66 : decode cX11_says 66 = .ok (.aload_n 0, 1) := by decide +kernel
theorem dX11_says_67 : decode cX11_says 67 = .ok (.getfield 58, 3) := by decide +kernel
theorem dX11_says_70 : decode cX11_says 70 = .ok (.iload_n 2, 1) := by decide +kernel
theorem dX11_says_71 : decode cX11_says 71 = .ok (.iload 4, 2) := by decide +kernel
theorem dX11_says_73 : decode cX11_says 73 = .ok (.bipush 11, 2) := by decide +kernel
theorem dX11_says_75 : decode cX11_says 75 = .ok (.if_icmp .ge 13, 3) := by decide +kernel
theorem dX11_says_78 : decode cX11_says 78 = .ok (.aload_n 0, 1) := by decide +kernel
theorem dX11_says_79 : decode cX11_says 79 = .ok (.getfield 61, 3) := by decide +kernel
theorem dX11_says_82 : decode cX11_says 82 = .ok (.iload 4, 2) := by decide +kernel
theorem dX11_says_84 : decode cX11_says 84 = .ok (.iaload, 1) := by decide +kernel
theorem dX11_says_85 : decode cX11_says 85 = .ok (.goto 8, 3) := by decide +kernel
theorem dX11_says_88 : decode cX11_says 88 = .ok (.iload 4, 2) := by decide +kernel
theorem dX11_says_90 : decode cX11_says 90 = .ok (.ldc 146, 2) := by decide +kernel
theorem dX11_says_92 : decode cX11_says 92 = .ok (.isub, 1) := by decide +kernel
theorem dX11_says_93 : decode cX11_says 93 = .ok (.iastore, 1) := by decide +kernel
theorem dX11_says_94 : decode cX11_says 94 = .ok (.iinc 2 1, 3) := by decide +kernel
theorem dX11_says_97 : decode cX11_says 97 = .ok (.goto 94, 3) := by decide +kernel
theorem dX11_says_100 : decode cX11_says 100 = .ok (.iload 4, 2) := by decide +kernel
theorem dX11_says_102 : decode cX11_says 102 = .ok (.bipush 13, 2) := by decide +kernel
theorem dX11_says_104 : decode cX11_says 104 = .ok (.if_icmp .ne 30, 3) := by decide +kernel
theorem dX11_says_107 : decode cX11_says 107 = .ok (.aload_n 0, 1) := by decide +kernel
theorem dX11_says_108 : decode cX11_says 108 = .ok (.getfield 58, 3) := by decide +kernel
theorem dX11_says_111 : decode cX11_says 111 = .ok (.iload_n 2, 1) := by decide +kernel
theorem dX11_says_112 : decode cX11_says 112 = .ok (.iconst 1, 1) := by decide +kernel
theorem dX11_says_113 : decode cX11_says 113 = .ok (.isub, 1) := by decide +kernel
theorem dX11_says_114 : decode cX11_says 114 = .ok (.aload_n 0, 1) := by decide +kernel
theorem dX11_says_115 : decode cX11_says 115 = .ok (.getfield 58, 3) := by decide +kernel
theorem dX11_says_118 : decode cX11_says 118 = .ok (.iload_n 2, 1) := by decide +kernel
theorem dX11_says_119 : decode cX11_says 119 = .ok (.iconst 1, 1) := by decide +kernel
theorem dX11_says_120 : decode cX11_says 120 = .ok (.isub, 1) := by decide +kernel
theorem dX11_says_121 : decode cX11_says 121 = .ok (.iaload, 1) := by decide +kernel
theorem dX11_says_122 : decode cX11_says 122 = .ok (.ifCond .ne 7, 3) := by decide +kernel
theorem dX11_says_125 : decode cX11_says 125 = .ok (.iconst 1, 1) := by decide +kernel
theorem dX11_says_126 : decode cX11_says 126 = .ok (.goto 4, 3) := by decide +kernel
theorem dX11_says_129 : decode cX11_says 129 = .ok (.iconst 0, 1) := by decide +kernel
theorem dX11_says_130 : decode cX11_says 130 = .ok (.iastore, 1) := by decide +kernel
theorem dX11_says_131 : decode cX11_says 131 = .ok (.goto 60, 3) := by decide +kernel
theorem dX11_says_134 : decode cX11_says 134 = .ok (.iload 4, 2) := by decide +kernel
theorem dX11_says_136 : decode cX11_says 136 = .ok (.bipush 19, 2) := by decide +kernel
theorem dX11_says_138 : decode cX11_says 138 = .ok (.if_icmp .ne 23, 3) := by decide +kernel
theorem dX11_says_141 : decode cX11_says 141 = .ok (.aload_n 0, 1) := by decide +kernel
theorem dX11_says_142 : decode cX11_says 142 = .ok (.getfield 58, 3) := by decide +kernel
theorem dX11_says_145 : decode cX11_says 145 = .ok (.iload_n 2, 1) := by decide +kernel
theorem dX11_says_146 : decode cX11_says 146 = .ok (.iconst 1, 1) := by decide +kernel
theorem dX11_says_147 : decode cX11_says 147 = .ok (.isub, 1) := by decide +kernel
theorem dX11_says_148 : decode cX11_says 148 = .ok (.aload_n 0, 1) := by decide +kernel
theorem dX11_says_149 : decode cX11_says 149 = .ok (.getfield 58, 3) := by decide +kernel
theorem dX11_says_152 : decode cX11_says 152 = .ok (.iload_n 2, 1) := by decide +kernel
theorem dX11_says_153 : decode cX11_says 153 = .ok (.iconst 1, 1) := by decide +kernel
theorem dX11_says_154 : decode cX11_says 154 = .ok (.isub, 1) := by decide +kernel
theorem dX11_says_155 : decode cX11_says 155 = .ok (.iaload, 1) := by decide +kernel
theorem dX11_says_156 : decode cX11_says 156 = .ok (.ineg, 1) := by decide +kernel
theorem dX11_says_157 : decode cX11_says 157 = .ok (.iastore, 1) := by decide +kernel
theorem dX11_says_158 : decode cX11_says 158 = .ok (.goto 33, 3) := by decide +kernel
theorem dX11_says_161 : decode cX11_says 161 = .ok (.iinc 2 (-1), 3) := by decide +kernel
theorem dX11_says_164 : decode cX11_says 164 = .ok (.aload_n 0, 1) := by decide +kernel
theorem dX11_says_165 : decode cX11_says 165 = .ok (.getfield 58, 3) := by decide +kernel
theorem dX11_says_168 : decode cX11_says 168 = .ok (.iload_n 2, 1) := by decide +kernel
theorem dX11_says_169 : decode cX11_says 169 = .ok (.iconst 1, 1) := by decide +kernel
theorem dX11_says_170 : decode cX11_says 170 = .ok (.isub, 1) := by decide +kernel
theorem dX11_says_171 : decode cX11_says 171 = .ok (.iload 4, 2) := by decide +kernel
theorem dX11_says_173 : decode cX11_says 173 = .ok (.aload_n 0, 1) := by decide +kernel
theorem dX11_says_174 : decode cX11_says 174 = .ok (.getfield 58, 3) := by decide +kernel
theorem dX11_says_177 : decode cX11_says 177 = .ok (.iload_n 2, 1) := by decide +kernel
theorem dX11_says_178 : decode cX11_says 178 = .ok (.iconst 1, 1) := by decide +kernel
theorem dX11_says_179 : decode cX11_says 179 = .ok (.isub, 1) := by decide +kernel
theorem dX11_says_180 : decode cX11_says 180 = .ok (.iaload, 1) := by decide +kernel
theorem dX11_says_181 : decode cX11_says 181 = .ok (.aload_n 0, 1) := by decide +kernel
theorem dX11_says_182 : decode cX11_says 182 = .ok (.getfield 58, 3) := by decide +kernel
theorem dX11_says_185 : decode cX11_says 185 = .ok (.iload_n 2, 1) := by decide +kernel
theorem dX11_says_186 : decode cX11_says 186 = .ok (.iaload, 1) := by decide +kernel
theorem dX11_says_187 : decode cX11_says 187 = .ok (.invokestatic 160, 3) := by decide +kernel
theorem dX11_says_190 : decode cX11_says 190 = .ok (.iastore, 1) := by decide +kernel
theorem dX11_says_191 : decode cX11_says 191 = .ok (.iinc 3 1, 3) := by decide +kernel
theorem dX11_says_194 : decode cX11_says 194 = .ok (.goto (-178), 3) := by decide +kernel
theorem dX11_says_197 : decode cX11_says 197 = .ok (.aload_n 0, 1) := by decide +kernel
theorem dX11_says_198 : decode cX11_says 198 = .ok (.getfield 58, 3) := by decide +kernel
theorem dX11_says_201 : decode cX11_says 201 = .ok (.iconst 0, 1) := by decide +kernel
theorem dX11_says_202 : decode cX11_says 202 = .ok (.iaload, 1) := by decide +kernel
theorem dX11_says_203 : decode cX11_says 203 = .ok (.ireturn, 1) := by decide +kernel
theorem dX11_force_0 : decode cX11_force 0 = .ok (.iload_n 1, 1) := by decide +kernel
theorem dX11_force_1 : decode cX11_force 1 = .ok (.iconst 0, 1) := by decide +kernel
theorem dX11_force_2 : decode cX11_force 2 = .ok (.aload_n 0, 1) := by decide +kernel
theorem dX11_force_3 : decode cX11_force 3 = .ok (.getfield 94, 3) := by decide +kernel
theorem dX11_force_6 : decode cX11_force 6 = .ok (.iconst 1, 1) := by decide +kernel
theorem dX11_force_7 : decode cX11_force 7 = .ok (.isub, 1) := by decide +kernel
theorem dX11_force_8 : decode cX11_force 8 = .ok (.invokestatic 84, 3) := by decide +kernel
theorem dX11_force_11 : decode cX11_force 11 = .ok (.ifCond .ne 6, 3) := by decide +kernel
theorem dX11_force_14 : decode cX11_force 14 = .ok (.bipush (-2), 2) := by decide +kernel
theorem dX11_force_16 : decode cX11_force 16 = .ok (.ireturn, 1) := by decide +kernel
theorem dX11_force_17 : decode cX11_force 17 = .ok (.aload_n 0, 1) := by decide +kernel
theorem dX11_force_18 : decode cX11_force 18 = .ok (.getfield 97, 3) := by decide +kernel
theorem dX11_force_21 : decode cX11_force 21 = .ok (.istore_n 2, 1) := by decide +kernel
theorem dX11_force_22 : decode cX11_force 22 = .ok (.aload_n 0, 1) := by decide +kernel
theorem dX11_force_23 : decode cX11_force 23 = .ok (.iload_n 1, 1) := by decide +kernel
theorem dX11_force_24 : decode cX11_force 24 = .ok (.putfield 97, 3) := by decide +kernel
theorem dX11_force_27 : decode cX11_force 27 = .ok (.iload_n 2, 1) := by decide +kernel
theorem dX11_force_28 : decode cX11_force 28 = .ok (.ireturn, 1) := by decide +kernel
theorem dX11_leftOf_0 : decode cX11_leftOf 0 = .ok (.aload_n 0, 1) := by decide +kernel
theorem dX11_leftOf_1 : decode cX11_leftOf 1 = .ok (.getfield 7, 3) := by decide +kernel
theorem dX11_leftOf_4 : decode cX11_leftOf 4 = .ok (.bipush 12, 2) := by decide +kernel
theorem dX11_leftOf_6 : decode cX11_leftOf 6 = .ok (.iload_n 1, 1) := by decide +kernel
theorem dX11_leftOf_7 : decode cX11_leftOf 7 = .ok (.imul, 1) := by decide +kernel
theorem dX11_leftOf_8 : decode cX11_leftOf 8 = .ok (.bipush 11, 2) := by decide +kernel
theorem dX11_leftOf_10 : decode cX11_leftOf 10 = .ok (.iadd, 1) := by decide +kernel
theorem dX11_leftOf_11 : decode cX11_leftOf 11 = .ok (.iaload, 1) := by decide +kernel
theorem dX11_leftOf_12 : decode cX11_leftOf 12 = .ok (.ireturn, 1) := by decide +kernel
theorem dX11_softOf_0 : decode cX11_softOf 0 = .ok (.aload_n 0, 1) := by decide +kernel
theorem dX11_softOf_1 : decode cX11_softOf 1 = .ok (.getfield 7, 3) := by decide +kernel
theorem dX11_softOf_4 : decode cX11_softOf 4 = .ok (.bipush 12, 2) := by decide +kernel
theorem dX11_softOf_6 : decode cX11_softOf 6 = .ok (.iload_n 1, 1) := by decide +kernel
theorem dX11_softOf_7 : decode cX11_softOf 7 = .ok (.imul, 1) := by decide +kernel
theorem dX11_softOf_8 : decode cX11_softOf 8 = .ok (.bipush 10, 2) := by decide +kernel
theorem dX11_softOf_10 : decode cX11_softOf 10 = .ok (.iadd, 1) := by decide +kernel
theorem dX11_softOf_11 : decode cX11_softOf 11 = .ok (.iaload, 1) := by decide +kernel
theorem dX11_softOf_12 : decode cX11_softOf 12 = .ok (.ireturn, 1) := by decide +kernel
theorem dX11_asksOf_0 : decode cX11_asksOf 0 = .ok (.aload_n 0, 1) := by decide +kernel
theorem dX11_asksOf_1 : decode cX11_asksOf 1 = .ok (.getfield 61, 3) := by decide +kernel
theorem dX11_asksOf_4 : decode cX11_asksOf 4 = .ok (.iconst 0, 1) := by decide +kernel
theorem dX11_asksOf_5 : decode cX11_asksOf 5 = .ok (.iload 4, 2) := by decide +kernel
theorem dX11_asksOf_7 : decode cX11_asksOf 7 = .ok (.iastore, 1) := by decide +kernel
theorem dX11_asksOf_8 : decode cX11_asksOf 8 = .ok (.aload_n 0, 1) := by decide +kernel
theorem dX11_asksOf_9 : decode cX11_asksOf 9 = .ok (.getfield 61, 3) := by decide +kernel
theorem dX11_asksOf_12 : decode cX11_asksOf 12 = .ok (.iconst 1, 1) := by decide +kernel
theorem dX11_asksOf_13 : decode cX11_asksOf 13 = .ok (.iload 5, 2) := by decide +kernel
theorem dX11_asksOf_15 : decode cX11_asksOf 15 = .ok (.iastore, 1) := by decide +kernel
theorem dX11_asksOf_16 : decode cX11_asksOf 16 = .ok (.aload_n 0, 1) := by decide +kernel
theorem dX11_asksOf_17 : decode cX11_asksOf 17 = .ok (.getfield 61, 3) := by decide +kernel
theorem dX11_asksOf_20 : decode cX11_asksOf 20 = .ok (.iconst 2, 1) := by decide +kernel
theorem dX11_asksOf_21 : decode cX11_asksOf 21 = .ok (.aload_n 0, 1) := by decide +kernel
theorem dX11_asksOf_22 : decode cX11_asksOf 22 = .ok (.iload_n 3, 1) := by decide +kernel
theorem dX11_asksOf_23 : decode cX11_asksOf 23 = .ok (.invokevirtual 164, 3) := by decide +kernel
theorem dX11_asksOf_26 : decode cX11_asksOf 26 = .ok (.iastore, 1) := by decide +kernel
theorem dX11_asksOf_27 : decode cX11_asksOf 27 = .ok (.aload_n 0, 1) := by decide +kernel
theorem dX11_asksOf_28 : decode cX11_asksOf 28 = .ok (.getfield 61, 3) := by decide +kernel
theorem dX11_asksOf_31 : decode cX11_asksOf 31 = .ok (.iconst 3, 1) := by decide +kernel
theorem dX11_asksOf_32 : decode cX11_asksOf 32 = .ok (.aload_n 0, 1) := by decide +kernel
theorem dX11_asksOf_33 : decode cX11_asksOf 33 = .ok (.getfield 16, 3) := by decide +kernel
theorem dX11_asksOf_36 : decode cX11_asksOf 36 = .ok (.iload_n 2, 1) := by decide +kernel
theorem dX11_asksOf_37 : decode cX11_asksOf 37 = .ok (.iaload, 1) := by decide +kernel
theorem dX11_asksOf_38 : decode cX11_asksOf 38 = .ok (.iastore, 1) := by decide +kernel
theorem dX11_asksOf_39 : decode cX11_asksOf 39 = .ok (.aload_n 0, 1) := by decide +kernel
theorem dX11_asksOf_40 : decode cX11_asksOf 40 = .ok (.getfield 61, 3) := by decide +kernel
theorem dX11_asksOf_43 : decode cX11_asksOf 43 = .ok (.iconst 4, 1) := by decide +kernel
theorem dX11_asksOf_44 : decode cX11_asksOf 44 = .ok (.aload_n 0, 1) := by decide +kernel
theorem dX11_asksOf_45 : decode cX11_asksOf 45 = .ok (.iload_n 3, 1) := by decide +kernel
theorem dX11_asksOf_46 : decode cX11_asksOf 46 = .ok (.invokevirtual 167, 3) := by decide +kernel
theorem dX11_asksOf_49 : decode cX11_asksOf 49 = .ok (.invokestatic 170, 3) := by decide +kernel
theorem dX11_asksOf_52 : decode cX11_asksOf 52 = .ok (.iastore, 1) := by decide +kernel
theorem dX11_asksOf_53 : decode cX11_asksOf 53 = .ok (.aload_n 0, 1) := by decide +kernel
theorem dX11_asksOf_54 : decode cX11_asksOf 54 = .ok (.getfield 61, 3) := by decide +kernel
theorem dX11_asksOf_57 : decode cX11_asksOf 57 = .ok (.iconst 5, 1) := by decide +kernel
theorem dX11_asksOf_58 : decode cX11_asksOf 58 = .ok (.aload_n 0, 1) := by decide +kernel
theorem dX11_asksOf_59 : decode cX11_asksOf 59 = .ok (.getfield 91, 3) := by decide +kernel
theorem dX11_asksOf_62 : decode cX11_asksOf 62 = .ok (.iastore, 1) := by decide +kernel
theorem dX11_asksOf_63 : decode cX11_asksOf 63 = .ok (.aload_n 0, 1) := by decide +kernel
theorem dX11_asksOf_64 : decode cX11_asksOf 64 = .ok (.iload_n 1, 1) := by decide +kernel
theorem dX11_asksOf_65 : decode cX11_asksOf 65 = .ok (.invokevirtual 173, 3) := by decide +kernel
theorem dX11_asksOf_68 : decode cX11_asksOf 68 = .ok (.iconst 0, 1) := by decide +kernel
theorem dX11_asksOf_69 : decode cX11_asksOf 69 = .ok (.iload_n 1, 1) := by decide +kernel
theorem dX11_asksOf_70 : decode cX11_asksOf 70 = .ok (.iconst 1, 1) := by decide +kernel
theorem dX11_asksOf_71 : decode cX11_asksOf 71 = .ok (.if_icmp .ne 8, 3) := by decide +kernel
theorem dX11_asksOf_74 : decode cX11_asksOf 74 = .ok (.bipush 99, 2) := by decide +kernel
theorem dX11_asksOf_76 : decode cX11_asksOf 76 = .ok (.goto 6, 3) := by decide +kernel
theorem dX11_asksOf_79 : decode cX11_asksOf 79 = .ok (.sipush 999, 3) := by decide +kernel
theorem dX11_asksOf_82 : decode cX11_asksOf 82 = .ok (.invokestatic 176, 3) := by decide +kernel
theorem dX11_asksOf_85 : decode cX11_asksOf 85 = .ok (.ireturn, 1) := by decide +kernel
theorem dX11_asks_0 : decode cX11_asks 0 = .ok (.iload_n 1, 1) := by decide +kernel
theorem dX11_asks_1 : decode cX11_asks 1 = .ok (.iconst 0, 1) := by decide +kernel
theorem dX11_asks_2 : decode cX11_asks 2 = .ok (.iconst 2, 1) := by decide +kernel
theorem dX11_asks_3 : decode cX11_asks 3 = .ok (.invokestatic 84, 3) := by decide +kernel
theorem dX11_asks_6 : decode cX11_asks 6 = .ok (.ifCond .eq 35, 3) := by decide +kernel
theorem dX11_asks_9 : decode cX11_asks 9 = .ok (.aload_n 0, 1) := by decide +kernel
theorem dX11_asks_10 : decode cX11_asks 10 = .ok (.iload_n 2, 1) := by decide +kernel
theorem dX11_asks_11 : decode cX11_asks 11 = .ok (.invokevirtual 179, 3) := by decide +kernel
theorem dX11_asks_14 : decode cX11_asks 14 = .ok (.ifCond .eq 27, 3) := by decide +kernel
theorem dX11_asks_17 : decode cX11_asks 17 = .ok (.aload_n 0, 1) := by decide +kernel
theorem dX11_asks_18 : decode cX11_asks 18 = .ok (.iload_n 3, 1) := by decide +kernel
theorem dX11_asks_19 : decode cX11_asks 19 = .ok (.invokevirtual 182, 3) := by decide +kernel
theorem dX11_asks_22 : decode cX11_asks 22 = .ok (.ifCond .eq 19, 3) := by decide +kernel
theorem dX11_asks_25 : decode cX11_asks 25 = .ok (.iload 4, 2) := by decide +kernel
theorem dX11_asks_27 : decode cX11_asks 27 = .ok (.iconst 0, 1) := by decide +kernel
theorem dX11_asks_28 : decode cX11_asks 28 = .ok (.sipush 1099, 3) := by decide +kernel
theorem dX11_asks_31 : decode cX11_asks 31 = .ok (.invokestatic 84, 3) := by decide +kernel
theorem dX11_asks_34 : decode cX11_asks 34 = .ok (.ifCond .eq 7, 3) := by decide +kernel
theorem dX11_asks_37 : decode cX11_asks 37 = .ok (.iconst 1, 1) := by decide +kernel
theorem dX11_asks_38 : decode cX11_asks 38 = .ok (.goto 4, 3) := by decide +kernel
theorem dX11_asks_41 : decode cX11_asks 41 = .ok (.iconst 0, 1) := by decide +kernel
theorem dX11_asks_42 : decode cX11_asks 42 = .ok (.istore 5, 2) := by decide +kernel
theorem dX11_asks_44 : decode cX11_asks 44 = .ok (.iload 5, 2) := by decide +kernel
theorem dX11_asks_46 : decode cX11_asks 46 = .ok (.ifCond .eq 23, 3) := by decide +kernel
theorem dX11_asks_49 : decode cX11_asks 49 = .ok (.aload_n 0, 1) := by decide +kernel
theorem dX11_asks_50 : decode cX11_asks 50 = .ok (.iload_n 1, 1) := by decide +kernel
theorem dX11_asks_51 : decode cX11_asks 51 = .ok (.iload_n 2, 1) := by decide +kernel
theorem dX11_asks_52 : decode cX11_asks 52 = .ok (.iload_n 3, 1) := by decide +kernel
theorem dX11_asks_53 : decode cX11_asks 53 = .ok (.iload 4, 2) := by decide +kernel
theorem dX11_asks_55 : decode cX11_asks 55 = .ok (.bipush 100, 2) := by decide +kernel
theorem dX11_asks_57 : decode cX11_asks 57 = .ok (.idiv, 1) := by decide +kernel
theorem dX11_asks_58 : decode cX11_asks 58 = .ok (.iload 4, 2) := by decide +kernel
theorem dX11_asks_60 : decode cX11_asks 60 = .ok (.bipush 100, 2) := by decide +kernel
theorem dX11_asks_62 : decode cX11_asks 62 = .ok (.irem, 1) := by decide +kernel
theorem dX11_asks_63 : decode cX11_asks 63 = .ok (.invokevirtual 185, 3) := by decide +kernel
theorem dX11_asks_66 : decode cX11_asks 66 = .ok (.goto 5, 3) := by decide +kernel
theorem dX11_asks_69 : decode cX11_asks 69 = .ok (.bipush (-2), 2) := by decide +kernel
theorem dX11_asks_71 : decode cX11_asks 71 = .ok (.ireturn, 1) := by decide +kernel
theorem dX11_good_0 : decode cX11_good 0 = .ok (.iload_n 1, 1) := by decide +kernel
theorem dX11_good_1 : decode cX11_good 1 = .ok (.iconst 0, 1) := by decide +kernel
theorem dX11_good_2 : decode cX11_good 2 = .ok (.bipush 9, 2) := by decide +kernel
theorem dX11_good_4 : decode cX11_good 4 = .ok (.invokestatic 84, 3) := by decide +kernel
theorem dX11_good_7 : decode cX11_good 7 = .ok (.ifCond .eq 13, 3) := by decide +kernel
theorem dX11_good_10 : decode cX11_good 10 = .ok (.iload_n 2, 1) := by decide +kernel
theorem dX11_good_11 : decode cX11_good 11 = .ok (.iconst 0, 1) := by decide +kernel
theorem dX11_good_12 : decode cX11_good 12 = .ok (.bipush 99, 2) := by decide +kernel
theorem dX11_good_14 : decode cX11_good 14 = .ok (.invokestatic 84, 3) := by decide +kernel
theorem dX11_good_17 : decode cX11_good 17 = .ok (.ifCond .ne 6, 3) := by decide +kernel
theorem dX11_good_20 : decode cX11_good 20 = .ok (.bipush (-2), 2) := by decide +kernel
theorem dX11_good_22 : decode cX11_good 22 = .ok (.ireturn, 1) := by decide +kernel
theorem dX11_good_23 : decode cX11_good 23 = .ok (.aload_n 0, 1) := by decide +kernel
theorem dX11_good_24 : decode cX11_good 24 = .ok (.getfield 88, 3) := by decide +kernel
theorem dX11_good_27 : decode cX11_good 27 = .ok (.bipush 6, 2) := by decide +kernel
theorem dX11_good_29 : decode cX11_good 29 = .ok (.if_icmp .ne 6, 3) := by decide +kernel
theorem dX11_good_32 : decode cX11_good 32 = .ok (.bipush (-4), 2) := by decide +kernel
theorem dX11_good_34 : decode cX11_good 34 = .ok (.ireturn, 1) := by decide +kernel
theorem dX11_good_35 : decode cX11_good 35 = .ok (.iconst 0, 1) := by decide +kernel
theorem dX11_good_36 : decode cX11_good 36 = .ok (.istore_n 3, 1) := by decide +kernel
theorem dX11_good_37 : decode cX11_good 37 = .ok (.iload_n 3, 1) := by decide +kernel
theorem dX11_good_38 : decode cX11_good 38 = .ok (.bipush 10, 2) := by decide +kernel
theorem dX11_good_40 : decode cX11_good 40 = .ok (.if_icmp .ge 24, 3) := by decide +kernel
theorem dX11_good_43 : decode cX11_good 43 = .ok (.aload_n 0, 1) := by decide +kernel
theorem dX11_good_44 : decode cX11_good 44 = .ok (.getfield 7, 3) := by decide +kernel
theorem dX11_good_47 : decode cX11_good 47 = .ok (.bipush 12, 2) := by decide +kernel
theorem dX11_good_49 : decode cX11_good 49 = .ok (.aload_n 0, 1) := by decide +kernel
theorem dX11_good_50 : decode cX11_good 50 = .ok (.getfield 88, 3) := by decide +kernel
theorem dX11_good_53 : decode cX11_good 53 = .ok (.imul, 1) := by decide +kernel
theorem dX11_good_54 : decode cX11_good 54 = .ok (.iload_n 3, 1) := by decide +kernel
theorem dX11_good_55 : decode cX11_good 55 = .ok (.iadd, 1) := by decide +kernel
theorem dX11_good_56 : decode cX11_good 56 = .ok (.iload_n 2, 1) := by decide +kernel
theorem dX11_good_57 : decode cX11_good 57 = .ok (.iastore, 1) := by decide +kernel
theorem dX11_good_58 : decode cX11_good 58 = .ok (.iinc 3 1, 3) := by decide +kernel
theorem dX11_good_61 : decode cX11_good 61 = .ok (.goto (-24), 3) := by decide +kernel
theorem dX11_good_64 : decode cX11_good 64 = .ok (.aload_n 0, 1) := by decide +kernel
theorem dX11_good_65 : decode cX11_good 65 = .ok (.getfield 7, 3) := by decide +kernel
theorem dX11_good_68 : decode cX11_good 68 = .ok (.bipush 12, 2) := by decide +kernel
theorem dX11_good_70 : decode cX11_good 70 = .ok (.aload_n 0, 1) := by decide +kernel
theorem dX11_good_71 : decode cX11_good 71 = .ok (.getfield 88, 3) := by decide +kernel
theorem dX11_good_74 : decode cX11_good 74 = .ok (.imul, 1) := by decide +kernel
theorem dX11_good_75 : decode cX11_good 75 = .ok (.bipush 10, 2) := by decide +kernel
theorem dX11_good_77 : decode cX11_good 77 = .ok (.iadd, 1) := by decide +kernel
theorem dX11_good_78 : decode cX11_good 78 = .ok (.iload_n 1, 1) := by decide +kernel
theorem dX11_good_79 : decode cX11_good 79 = .ok (.iastore, 1) := by decide +kernel
theorem dX11_good_80 : decode cX11_good 80 = .ok (.aload_n 0, 1) := by decide +kernel
theorem dX11_good_81 : decode cX11_good 81 = .ok (.getfield 7, 3) := by decide +kernel
theorem dX11_good_84 : decode cX11_good 84 = .ok (.bipush 12, 2) := by decide +kernel
theorem dX11_good_86 : decode cX11_good 86 = .ok (.aload_n 0, 1) := by decide +kernel
theorem dX11_good_87 : decode cX11_good 87 = .ok (.getfield 88, 3) := by decide +kernel
theorem dX11_good_90 : decode cX11_good 90 = .ok (.imul, 1) := by decide +kernel
theorem dX11_good_91 : decode cX11_good 91 = .ok (.bipush 11, 2) := by decide +kernel
theorem dX11_good_93 : decode cX11_good 93 = .ok (.iadd, 1) := by decide +kernel
theorem dX11_good_94 : decode cX11_good 94 = .ok (.sipush 1023, 3) := by decide +kernel
theorem dX11_good_97 : decode cX11_good 97 = .ok (.iastore, 1) := by decide +kernel
theorem dX11_good_98 : decode cX11_good 98 = .ok (.aload_n 0, 1) := by decide +kernel
theorem dX11_good_99 : decode cX11_good 99 = .ok (.dup, 1) := by decide +kernel
theorem dX11_good_100 : decode cX11_good 100 = .ok (.getfield 88, 3) := by decide +kernel
theorem dX11_good_103 : decode cX11_good 103 = .ok (.iconst 1, 1) := by decide +kernel
theorem dX11_good_104 : decode cX11_good 104 = .ok (.iadd, 1) := by decide +kernel
theorem dX11_good_105 : decode cX11_good 105 = .ok (.putfield 88, 3) := by decide +kernel
theorem dX11_good_108 : decode cX11_good 108 = .ok (.aload_n 0, 1) := by decide +kernel
theorem dX11_good_109 : decode cX11_good 109 = .ok (.getfield 88, 3) := by decide +kernel
theorem dX11_good_112 : decode cX11_good 112 = .ok (.iconst 1, 1) := by decide +kernel
theorem dX11_good_113 : decode cX11_good 113 = .ok (.isub, 1) := by decide +kernel
theorem dX11_good_114 : decode cX11_good 114 = .ok (.ireturn, 1) := by decide +kernel
theorem dX11_put_0 : decode cX11_put 0 = .ok (.aload_n 0, 1) := by decide +kernel
theorem dX11_put_1 : decode cX11_put 1 = .ok (.iload_n 1, 1) := by decide +kernel
theorem dX11_put_2 : decode cX11_put 2 = .ok (.invokevirtual 182, 3) := by decide +kernel
theorem dX11_put_5 : decode cX11_put 5 = .ok (.ifCond .ne 6, 3) := by decide +kernel
theorem dX11_put_8 : decode cX11_put 8 = .ok (.bipush (-5), 2) := by decide +kernel
theorem dX11_put_10 : decode cX11_put 10 = .ok (.ireturn, 1) := by decide +kernel
theorem dX11_put_11 : decode cX11_put 11 = .ok (.iload_n 2, 1) := by decide +kernel
theorem dX11_put_12 : decode cX11_put 12 = .ok (.iconst 0, 1) := by decide +kernel
theorem dX11_put_13 : decode cX11_put 13 = .ok (.bipush 11, 2) := by decide +kernel
theorem dX11_put_15 : decode cX11_put 15 = .ok (.invokestatic 84, 3) := by decide +kernel
theorem dX11_put_18 : decode cX11_put 18 = .ok (.ifCond .eq 36, 3) := by decide +kernel
theorem dX11_put_21 : decode cX11_put 21 = .ok (.iload_n 3, 1) := by decide +kernel
theorem dX11_put_22 : decode cX11_put 22 = .ok (.iconst 0, 1) := by decide +kernel
theorem dX11_put_23 : decode cX11_put 23 = .ok (.iload_n 2, 1) := by decide +kernel
theorem dX11_put_24 : decode cX11_put 24 = .ok (.bipush 10, 2) := by decide +kernel
theorem dX11_put_26 : decode cX11_put 26 = .ok (.if_icmp .ge 8, 3) := by decide +kernel
theorem dX11_put_29 : decode cX11_put 29 = .ok (.bipush 99, 2) := by decide +kernel
theorem dX11_put_31 : decode cX11_put 31 = .ok (.goto 17, 3) := by decide +kernel
theorem dX11_put_34 : decode cX11_put 34 = .ok (.iload_n 2, 1) := by decide +kernel
theorem dX11_put_35 : decode cX11_put 35 = .ok (.bipush 10, 2) := by decide +kernel
theorem dX11_put_37 : decode cX11_put 37 = .ok (.if_icmp .ne 8, 3) := by decide +kernel
theorem dX11_put_40 : decode cX11_put 40 = .ok (.bipush 9, 2) := by decide +kernel
theorem dX11_put_42 : decode cX11_put 42 = .ok (.goto 6, 3) := by decide +kernel
theorem dX11_put_45 : decode cX11_put 45 = .ok (.sipush 1023, 3) := by decide +kernel
theorem dX11_put_48 : decode cX11_put 48 = .ok (.invokestatic 84, 3) := by decide +kernel
theorem dX11_put_51 : decode cX11_put 51 = .ok (.ifCond .ne 6, 3) := by decide +kernel
theorem dX11_put_54 : decode cX11_put 54 = .ok (.bipush (-7), 2) := by decide +kernel
theorem dX11_put_56 : decode cX11_put 56 = .ok (.ireturn, 1) := by decide +kernel
theorem dX11_put_57 : decode cX11_put 57 = .ok (.aload_n 0, 1) := by decide +kernel
theorem dX11_put_58 : decode cX11_put 58 = .ok (.getfield 7, 3) := by decide +kernel
theorem dX11_put_61 : decode cX11_put 61 = .ok (.bipush 12, 2) := by decide +kernel
theorem dX11_put_63 : decode cX11_put 63 = .ok (.iload_n 1, 1) := by decide +kernel
theorem dX11_put_64 : decode cX11_put 64 = .ok (.imul, 1) := by decide +kernel
theorem dX11_put_65 : decode cX11_put 65 = .ok (.iload_n 2, 1) := by decide +kernel
theorem dX11_put_66 : decode cX11_put 66 = .ok (.iadd, 1) := by decide +kernel
theorem dX11_put_67 : decode cX11_put 67 = .ok (.iaload, 1) := by decide +kernel
theorem dX11_put_68 : decode cX11_put 68 = .ok (.istore 4, 2) := by decide +kernel
theorem dX11_put_70 : decode cX11_put 70 = .ok (.aload_n 0, 1) := by decide +kernel
theorem dX11_put_71 : decode cX11_put 71 = .ok (.getfield 7, 3) := by decide +kernel
theorem dX11_put_74 : decode cX11_put 74 = .ok (.bipush 12, 2) := by decide +kernel
theorem dX11_put_76 : decode cX11_put 76 = .ok (.iload_n 1, 1) := by decide +kernel
theorem dX11_put_77 : decode cX11_put 77 = .ok (.imul, 1) := by decide +kernel
theorem dX11_put_78 : decode cX11_put 78 = .ok (.iload_n 2, 1) := by decide +kernel
theorem dX11_put_79 : decode cX11_put 79 = .ok (.iadd, 1) := by decide +kernel
theorem dX11_put_80 : decode cX11_put 80 = .ok (.iload_n 3, 1) := by decide +kernel
theorem dX11_put_81 : decode cX11_put 81 = .ok (.iastore, 1) := by decide +kernel
theorem dX11_put_82 : decode cX11_put 82 = .ok (.iload 4, 2) := by decide +kernel
theorem dX11_put_84 : decode cX11_put 84 = .ok (.ireturn, 1) := by decide +kernel
theorem dX11_part_0 : decode cX11_part 0 = .ok (.aload_n 0, 1) := by decide +kernel
theorem dX11_part_1 : decode cX11_part 1 = .ok (.iload_n 1, 1) := by decide +kernel
theorem dX11_part_2 : decode cX11_part 2 = .ok (.invokevirtual 182, 3) := by decide +kernel
theorem dX11_part_5 : decode cX11_part 5 = .ok (.ifCond .ne 6, 3) := by decide +kernel
theorem dX11_part_8 : decode cX11_part 8 = .ok (.bipush (-5), 2) := by decide +kernel
theorem dX11_part_10 : decode cX11_part 10 = .ok (.ireturn, 1) := by decide +kernel
theorem dX11_part_11 : decode cX11_part 11 = .ok (.iload_n 2, 1) := by decide +kernel
theorem dX11_part_12 : decode cX11_part 12 = .ok (.iconst 0, 1) := by decide +kernel
theorem dX11_part_13 : decode cX11_part 13 = .ok (.bipush 11, 2) := by decide +kernel
theorem dX11_part_15 : decode cX11_part 15 = .ok (.invokestatic 84, 3) := by decide +kernel
theorem dX11_part_18 : decode cX11_part 18 = .ok (.ifCond .eq 17, 3) := by decide +kernel
theorem dX11_part_21 : decode cX11_part 21 = .ok (.aload_n 0, 1) := by decide +kernel
theorem dX11_part_22 : decode cX11_part 22 = .ok (.getfield 7, 3) := by decide +kernel
theorem dX11_part_25 : decode cX11_part 25 = .ok (.bipush 12, 2) := by decide +kernel
theorem dX11_part_27 : decode cX11_part 27 = .ok (.iload_n 1, 1) := by decide +kernel
theorem dX11_part_28 : decode cX11_part 28 = .ok (.imul, 1) := by decide +kernel
theorem dX11_part_29 : decode cX11_part 29 = .ok (.iload_n 2, 1) := by decide +kernel
theorem dX11_part_30 : decode cX11_part 30 = .ok (.iadd, 1) := by decide +kernel
theorem dX11_part_31 : decode cX11_part 31 = .ok (.iaload, 1) := by decide +kernel
theorem dX11_part_32 : decode cX11_part 32 = .ok (.goto 5, 3) := by decide +kernel
theorem dX11_part_35 : decode cX11_part 35 = .ok (.bipush (-7), 2) := by decide +kernel
theorem dX11_part_37 : decode cX11_part 37 = .ok (.ireturn, 1) := by decide +kernel
theorem dX11_eater_0 : decode cX11_eater 0 = .ok (.iload_n 1, 1) := by decide +kernel
theorem dX11_eater_1 : decode cX11_eater 1 = .ok (.iconst 0, 1) := by decide +kernel
theorem dX11_eater_2 : decode cX11_eater 2 = .ok (.bipush 59, 2) := by decide +kernel
theorem dX11_eater_4 : decode cX11_eater 4 = .ok (.invokestatic 84, 3) := by decide +kernel
theorem dX11_eater_7 : decode cX11_eater 7 = .ok (.ifCond .eq 13, 3) := by decide +kernel
theorem dX11_eater_10 : decode cX11_eater 10 = .ok (.iload_n 2, 1) := by decide +kernel
theorem dX11_eater_11 : decode cX11_eater 11 = .ok (.iconst 1, 1) := by decide +kernel
theorem dX11_eater_12 : decode cX11_eater 12 = .ok (.bipush 63, 2) := by decide +kernel
theorem dX11_eater_14 : decode cX11_eater 14 = .ok (.invokestatic 84, 3) := by decide +kernel
theorem dX11_eater_17 : decode cX11_eater 17 = .ok (.ifCond .ne 6, 3) := by decide +kernel
theorem dX11_eater_20 : decode cX11_eater 20 = .ok (.bipush (-2), 2) := by decide +kernel
theorem dX11_eater_22 : decode cX11_eater 22 = .ok (.ireturn, 1) := by decide +kernel
theorem dX11_eater_23 : decode cX11_eater 23 = .ok (.aload_n 0, 1) := by decide +kernel
theorem dX11_eater_24 : decode cX11_eater 24 = .ok (.getfield 81, 3) := by decide +kernel
theorem dX11_eater_27 : decode cX11_eater 27 = .ok (.iconst 5, 1) := by decide +kernel
theorem dX11_eater_28 : decode cX11_eater 28 = .ok (.if_icmp .ne 6, 3) := by decide +kernel
theorem dX11_eater_31 : decode cX11_eater 31 = .ok (.bipush (-4), 2) := by decide +kernel
theorem dX11_eater_33 : decode cX11_eater 33 = .ok (.ireturn, 1) := by decide +kernel
theorem dX11_eater_34 : decode cX11_eater 34 = .ok (.aload_n 0, 1) := by decide +kernel
theorem dX11_eater_35 : decode cX11_eater 35 = .ok (.getfield 13, 3) := by decide +kernel
theorem dX11_eater_38 : decode cX11_eater 38 = .ok (.aload_n 0, 1) := by decide +kernel
theorem dX11_eater_39 : decode cX11_eater 39 = .ok (.getfield 81, 3) := by decide +kernel
theorem dX11_eater_42 : decode cX11_eater 42 = .ok (.iload_n 1, 1) := by decide +kernel
theorem dX11_eater_43 : decode cX11_eater 43 = .ok (.bipush 10, 2) := by decide +kernel
theorem dX11_eater_45 : decode cX11_eater 45 = .ok (.idiv, 1) := by decide +kernel
theorem dX11_eater_46 : decode cX11_eater 46 = .ok (.iastore, 1) := by decide +kernel
theorem dX11_eater_47 : decode cX11_eater 47 = .ok (.aload_n 0, 1) := by decide +kernel
theorem dX11_eater_48 : decode cX11_eater 48 = .ok (.getfield 16, 3) := by decide +kernel
theorem dX11_eater_51 : decode cX11_eater 51 = .ok (.aload_n 0, 1) := by decide +kernel
theorem dX11_eater_52 : decode cX11_eater 52 = .ok (.getfield 81, 3) := by decide +kernel
theorem dX11_eater_55 : decode cX11_eater 55 = .ok (.iload_n 1, 1) := by decide +kernel
theorem dX11_eater_56 : decode cX11_eater 56 = .ok (.bipush 10, 2) := by decide +kernel
theorem dX11_eater_58 : decode cX11_eater 58 = .ok (.irem, 1) := by decide +kernel
theorem dX11_eater_59 : decode cX11_eater 59 = .ok (.iastore, 1) := by decide +kernel
theorem dX11_eater_60 : decode cX11_eater 60 = .ok (.aload_n 0, 1) := by decide +kernel
theorem dX11_eater_61 : decode cX11_eater 61 = .ok (.getfield 19, 3) := by decide +kernel
theorem dX11_eater_64 : decode cX11_eater 64 = .ok (.iconst 3, 1) := by decide +kernel
theorem dX11_eater_65 : decode cX11_eater 65 = .ok (.aload_n 0, 1) := by decide +kernel
theorem dX11_eater_66 : decode cX11_eater 66 = .ok (.getfield 81, 3) := by decide +kernel
theorem dX11_eater_69 : decode cX11_eater 69 = .ok (.imul, 1) := by decide +kernel
theorem dX11_eater_70 : decode cX11_eater 70 = .ok (.iload_n 2, 1) := by decide +kernel
theorem dX11_eater_71 : decode cX11_eater 71 = .ok (.iastore, 1) := by decide +kernel
theorem dX11_eater_72 : decode cX11_eater 72 = .ok (.aload_n 0, 1) := by decide +kernel
theorem dX11_eater_73 : decode cX11_eater 73 = .ok (.getfield 19, 3) := by decide +kernel
theorem dX11_eater_76 : decode cX11_eater 76 = .ok (.iconst 3, 1) := by decide +kernel
theorem dX11_eater_77 : decode cX11_eater 77 = .ok (.aload_n 0, 1) := by decide +kernel
theorem dX11_eater_78 : decode cX11_eater 78 = .ok (.getfield 81, 3) := by decide +kernel
theorem dX11_eater_81 : decode cX11_eater 81 = .ok (.imul, 1) := by decide +kernel
theorem dX11_eater_82 : decode cX11_eater 82 = .ok (.iconst 1, 1) := by decide +kernel
theorem dX11_eater_83 : decode cX11_eater 83 = .ok (.iadd, 1) := by decide +kernel
theorem dX11_eater_84 : decode cX11_eater 84 = .ok (.bipush 100, 2) := by decide +kernel
theorem dX11_eater_86 : decode cX11_eater 86 = .ok (.iastore, 1) := by decide +kernel
theorem dX11_eater_87 : decode cX11_eater 87 = .ok (.aload_n 0, 1) := by decide +kernel
theorem dX11_eater_88 : decode cX11_eater 88 = .ok (.getfield 19, 3) := by decide +kernel
theorem dX11_eater_91 : decode cX11_eater 91 = .ok (.iconst 3, 1) := by decide +kernel
theorem dX11_eater_92 : decode cX11_eater 92 = .ok (.aload_n 0, 1) := by decide +kernel
theorem dX11_eater_93 : decode cX11_eater 93 = .ok (.getfield 81, 3) := by decide +kernel
theorem dX11_eater_96 : decode cX11_eater 96 = .ok (.imul, 1) := by decide +kernel
theorem dX11_eater_97 : decode cX11_eater 97 = .ok (.iconst 2, 1) := by decide +kernel
theorem dX11_eater_98 : decode cX11_eater 98 = .ok (.iadd, 1) := by decide +kernel
theorem dX11_eater_99 : decode cX11_eater 99 = .ok (.iconst 0, 1) := by decide +kernel
theorem dX11_eater_100 : decode cX11_eater 100 = .ok (.iastore, 1) := by decide +kernel
theorem dX11_eater_101 : decode cX11_eater 101 = .ok (.aload_n 0, 1) := by decide +kernel
theorem dX11_eater_102 : decode cX11_eater 102 = .ok (.dup, 1) := by decide +kernel
theorem dX11_eater_103 : decode cX11_eater 103 = .ok (.getfield 81, 3) := by decide +kernel
theorem dX11_eater_106 : decode cX11_eater 106 = .ok (.iconst 1, 1) := by decide +kernel
theorem dX11_eater_107 : decode cX11_eater 107 = .ok (.iadd, 1) := by decide +kernel
theorem dX11_eater_108 : decode cX11_eater 108 = .ok (.putfield 81, 3) := by decide +kernel
theorem dX11_eater_111 : decode cX11_eater 111 = .ok (.aload_n 0, 1) := by decide +kernel
theorem dX11_eater_112 : decode cX11_eater 112 = .ok (.getfield 81, 3) := by decide +kernel
theorem dX11_eater_115 : decode cX11_eater 115 = .ok (.iconst 1, 1) := by decide +kernel
theorem dX11_eater_116 : decode cX11_eater 116 = .ok (.isub, 1) := by decide +kernel
theorem dX11_eater_117 : decode cX11_eater 117 = .ok (.ireturn, 1) := by decide +kernel
theorem dX11_told_0 : decode cX11_told 0 = .ok (.aload_n 0, 1) := by decide +kernel
theorem dX11_told_1 : decode cX11_told 1 = .ok (.iload_n 1, 1) := by decide +kernel
theorem dX11_told_2 : decode cX11_told 2 = .ok (.invokevirtual 179, 3) := by decide +kernel
theorem dX11_told_5 : decode cX11_told 5 = .ok (.ifCond .ne 6, 3) := by decide +kernel
theorem dX11_told_8 : decode cX11_told 8 = .ok (.bipush (-5), 2) := by decide +kernel
theorem dX11_told_10 : decode cX11_told 10 = .ok (.ireturn, 1) := by decide +kernel
theorem dX11_told_11 : decode cX11_told 11 = .ok (.iload_n 2, 1) := by decide +kernel
theorem dX11_told_12 : decode cX11_told 12 = .ok (.ifCond .ne 12, 3) := by decide +kernel
theorem dX11_told_15 : decode cX11_told 15 = .ok (.aload_n 0, 1) := by decide +kernel
theorem dX11_told_16 : decode cX11_told 16 = .ok (.getfield 13, 3) := by decide +kernel
theorem dX11_told_19 : decode cX11_told 19 = .ok (.iload_n 1, 1) := by decide +kernel
theorem dX11_told_20 : decode cX11_told 20 = .ok (.iaload, 1) := by decide +kernel
theorem dX11_told_21 : decode cX11_told 21 = .ok (.goto 43, 3) := by decide +kernel
theorem dX11_told_24 : decode cX11_told 24 = .ok (.iload_n 2, 1) := by decide +kernel
theorem dX11_told_25 : decode cX11_told 25 = .ok (.iconst 1, 1) := by decide +kernel
theorem dX11_told_26 : decode cX11_told 26 = .ok (.if_icmp .ne 12, 3) := by decide +kernel
theorem dX11_told_29 : decode cX11_told 29 = .ok (.aload_n 0, 1) := by decide +kernel
theorem dX11_told_30 : decode cX11_told 30 = .ok (.getfield 16, 3) := by decide +kernel
theorem dX11_told_33 : decode cX11_told 33 = .ok (.iload_n 1, 1) := by decide +kernel
theorem dX11_told_34 : decode cX11_told 34 = .ok (.iaload, 1) := by decide +kernel
theorem dX11_told_35 : decode cX11_told 35 = .ok (.goto 29, 3) := by decide +kernel
theorem dX11_told_38 : decode cX11_told 38 = .ok (.iload_n 2, 1) := by decide +kernel
theorem dX11_told_39 : decode cX11_told 39 = .ok (.iconst 2, 1) := by decide +kernel
theorem dX11_told_40 : decode cX11_told 40 = .ok (.iconst 4, 1) := by decide +kernel
theorem dX11_told_41 : decode cX11_told 41 = .ok (.invokestatic 84, 3) := by decide +kernel
theorem dX11_told_44 : decode cX11_told 44 = .ok (.ifCond .eq 18, 3) := by decide +kernel
theorem dX11_told_47 : decode cX11_told 47 = .ok (.aload_n 0, 1) := by decide +kernel
theorem dX11_told_48 : decode cX11_told 48 = .ok (.getfield 19, 3) := by decide +kernel
theorem dX11_told_51 : decode cX11_told 51 = .ok (.iconst 3, 1) := by decide +kernel
theorem dX11_told_52 : decode cX11_told 52 = .ok (.iload_n 1, 1) := by decide +kernel
theorem dX11_told_53 : decode cX11_told 53 = .ok (.imul, 1) := by decide +kernel
theorem dX11_told_54 : decode cX11_told 54 = .ok (.iload_n 2, 1) := by decide +kernel
theorem dX11_told_55 : decode cX11_told 55 = .ok (.iadd, 1) := by decide +kernel
theorem dX11_told_56 : decode cX11_told 56 = .ok (.iconst 2, 1) := by decide +kernel
theorem dX11_told_57 : decode cX11_told 57 = .ok (.isub, 1) := by decide +kernel
theorem dX11_told_58 : decode cX11_told 58 = .ok (.iaload, 1) := by decide +kernel
theorem dX11_told_59 : decode cX11_told 59 = .ok (.goto 5, 3) := by decide +kernel
theorem dX11_told_62 : decode cX11_told 62 = .ok (.bipush (-7), 2) := by decide +kernel
theorem dX11_told_64 : decode cX11_told 64 = .ok (.ireturn, 1) := by decide +kernel
theorem dX11_lend_0 : decode cX11_lend 0 = .ok (.aload_n 0, 1) := by decide +kernel
theorem dX11_lend_1 : decode cX11_lend 1 = .ok (.iload_n 1, 1) := by decide +kernel
theorem dX11_lend_2 : decode cX11_lend 2 = .ok (.invokevirtual 179, 3) := by decide +kernel
theorem dX11_lend_5 : decode cX11_lend 5 = .ok (.ifCond .ne 6, 3) := by decide +kernel
theorem dX11_lend_8 : decode cX11_lend 8 = .ok (.bipush (-5), 2) := by decide +kernel
theorem dX11_lend_10 : decode cX11_lend 10 = .ok (.ireturn, 1) := by decide +kernel
theorem dX11_lend_11 : decode cX11_lend 11 = .ok (.iload_n 2, 1) := by decide +kernel
theorem dX11_lend_12 : decode cX11_lend 12 = .ok (.iconst 0, 1) := by decide +kernel
theorem dX11_lend_13 : decode cX11_lend 13 = .ok (.iconst 1, 1) := by decide +kernel
theorem dX11_lend_14 : decode cX11_lend 14 = .ok (.invokestatic 84, 3) := by decide +kernel
theorem dX11_lend_17 : decode cX11_lend 17 = .ok (.ifCond .eq 31, 3) := by decide +kernel
theorem dX11_lend_20 : decode cX11_lend 20 = .ok (.iload_n 3, 1) := by decide +kernel
theorem dX11_lend_21 : decode cX11_lend 21 = .ok (.iload_n 2, 1) := by decide +kernel
theorem dX11_lend_22 : decode cX11_lend 22 = .ok (.ifCond .ne 7, 3) := by decide +kernel
theorem dX11_lend_25 : decode cX11_lend 25 = .ok (.iconst 1, 1) := by decide +kernel
theorem dX11_lend_26 : decode cX11_lend 26 = .ok (.goto 4, 3) := by decide +kernel
theorem dX11_lend_29 : decode cX11_lend 29 = .ok (.iconst 0, 1) := by decide +kernel
theorem dX11_lend_30 : decode cX11_lend 30 = .ok (.iload_n 2, 1) := by decide +kernel
theorem dX11_lend_31 : decode cX11_lend 31 = .ok (.ifCond .ne 8, 3) := by decide +kernel
theorem dX11_lend_34 : decode cX11_lend 34 = .ok (.bipush 63, 2) := by decide +kernel
theorem dX11_lend_36 : decode cX11_lend 36 = .ok (.goto 6, 3) := by decide +kernel
theorem dX11_lend_39 : decode cX11_lend 39 = .ok (.sipush 9999, 3) := by decide +kernel
theorem dX11_lend_42 : decode cX11_lend 42 = .ok (.invokestatic 84, 3) := by decide +kernel
theorem dX11_lend_45 : decode cX11_lend 45 = .ok (.ifCond .ne 6, 3) := by decide +kernel
theorem dX11_lend_48 : decode cX11_lend 48 = .ok (.bipush (-7), 2) := by decide +kernel
theorem dX11_lend_50 : decode cX11_lend 50 = .ok (.ireturn, 1) := by decide +kernel
theorem dX11_lend_51 : decode cX11_lend 51 = .ok (.aload_n 0, 1) := by decide +kernel
theorem dX11_lend_52 : decode cX11_lend 52 = .ok (.getfield 19, 3) := by decide +kernel
theorem dX11_lend_55 : decode cX11_lend 55 = .ok (.iconst 3, 1) := by decide +kernel
theorem dX11_lend_56 : decode cX11_lend 56 = .ok (.iload_n 1, 1) := by decide +kernel
theorem dX11_lend_57 : decode cX11_lend 57 = .ok (.imul, 1) := by decide +kernel
theorem dX11_lend_58 : decode cX11_lend 58 = .ok (.iload_n 2, 1) := by decide +kernel
theorem dX11_lend_59 : decode cX11_lend 59 = .ok (.iadd, 1) := by decide +kernel
theorem dX11_lend_60 : decode cX11_lend 60 = .ok (.iaload, 1) := by decide +kernel
theorem dX11_lend_61 : decode cX11_lend 61 = .ok (.istore 4, 2) := by decide +kernel
theorem dX11_lend_63 : decode cX11_lend 63 = .ok (.aload_n 0, 1) := by decide +kernel
theorem dX11_lend_64 : decode cX11_lend 64 = .ok (.getfield 19, 3) := by decide +kernel
theorem dX11_lend_67 : decode cX11_lend 67 = .ok (.iconst 3, 1) := by decide +kernel
theorem dX11_lend_68 : decode cX11_lend 68 = .ok (.iload_n 1, 1) := by decide +kernel
theorem dX11_lend_69 : decode cX11_lend 69 = .ok (.imul, 1) := by decide +kernel
theorem dX11_lend_70 : decode cX11_lend 70 = .ok (.iload_n 2, 1) := by decide +kernel
theorem dX11_lend_71 : decode cX11_lend 71 = .ok (.iadd, 1) := by decide +kernel
theorem dX11_lend_72 : decode cX11_lend 72 = .ok (.iload_n 3, 1) := by decide +kernel
theorem dX11_lend_73 : decode cX11_lend 73 = .ok (.iastore, 1) := by decide +kernel
theorem dX11_lend_74 : decode cX11_lend 74 = .ok (.iload 4, 2) := by decide +kernel
theorem dX11_lend_76 : decode cX11_lend 76 = .ok (.ireturn, 1) := by decide +kernel
theorem dX11_shapeOf_0 : decode cX11_shapeOf 0 = .ok (.aload_n 0, 1) := by decide +kernel
theorem dX11_shapeOf_1 : decode cX11_shapeOf 1 = .ok (.getfield 19, 3) := by decide +kernel
theorem dX11_shapeOf_4 : decode cX11_shapeOf 4 = .ok (.iconst 3, 1) := by decide +kernel
theorem dX11_shapeOf_5 : decode cX11_shapeOf 5 = .ok (.iload_n 1, 1) := by decide +kernel
theorem dX11_shapeOf_6 : decode cX11_shapeOf 6 = .ok (.imul, 1) := by decide +kernel
theorem dX11_shapeOf_7 : decode cX11_shapeOf 7 = .ok (.iaload, 1) := by decide +kernel
theorem dX11_shapeOf_8 : decode cX11_shapeOf 8 = .ok (.istore_n 3, 1) := by decide +kernel
theorem dX11_shapeOf_9 : decode cX11_shapeOf 9 = .ok (.aload_n 0, 1) := by decide +kernel
theorem dX11_shapeOf_10 : decode cX11_shapeOf 10 = .ok (.getfield 13, 3) := by decide +kernel
theorem dX11_shapeOf_13 : decode cX11_shapeOf 13 = .ok (.iload_n 1, 1) := by decide +kernel
theorem dX11_shapeOf_14 : decode cX11_shapeOf 14 = .ok (.iaload, 1) := by decide +kernel
theorem dX11_shapeOf_15 : decode cX11_shapeOf 15 = .ok (.tableswitch 72 1 5 #[33, 39, 54, 39, 59], 33) := by decide +kernel
theorem dX11_shapeOf_48 : decode cX11_shapeOf 48 = .ok (.iload_n 3, 1) := by decide +kernel
theorem dX11_shapeOf_49 : decode cX11_shapeOf 49 = .ok (.iload_n 3, 1) := by decide +kernel
theorem dX11_shapeOf_50 : decode cX11_shapeOf 50 = .ok (.iconst 1, 1) := by decide +kernel
theorem dX11_shapeOf_51 : decode cX11_shapeOf 51 = .ok (.ishl, 1) := by decide +kernel
theorem dX11_shapeOf_52 : decode cX11_shapeOf 52 = .ok (.ior, 1) := by decide +kernel
theorem dX11_shapeOf_53 : decode cX11_shapeOf 53 = .ok (.ireturn, 1) := by decide +kernel
theorem dX11_shapeOf_54 : decode cX11_shapeOf 54 = .ok (.aload_n 0, 1) := by decide +kernel
theorem dX11_shapeOf_55 : decode cX11_shapeOf 55 = .ok (.iload_n 2, 1) := by decide +kernel
theorem dX11_shapeOf_56 : decode cX11_shapeOf 56 = .ok (.invokevirtual 164, 3) := by decide +kernel
theorem dX11_shapeOf_59 : decode cX11_shapeOf 59 = .ok (.iconst 5, 1) := by decide +kernel
theorem dX11_shapeOf_60 : decode cX11_shapeOf 60 = .ok (.if_icmp .ge 7, 3) := by decide +kernel
theorem dX11_shapeOf_63 : decode cX11_shapeOf 63 = .ok (.iconst 0, 1) := by decide +kernel
theorem dX11_shapeOf_64 : decode cX11_shapeOf 64 = .ok (.goto 4, 3) := by decide +kernel
theorem dX11_shapeOf_67 : decode cX11_shapeOf 67 = .ok (.iload_n 3, 1) := by decide +kernel
theorem dX11_shapeOf_68 : decode cX11_shapeOf 68 = .ok (.ireturn, 1) := by decide +kernel
theorem dX11_shapeOf_69 : decode cX11_shapeOf 69 = .ok (.iload_n 3, 1) := by decide +kernel
theorem dX11_shapeOf_70 : decode cX11_shapeOf 70 = .ok (.iload_n 3, 1) := by decide +kernel
theorem dX11_shapeOf_71 : decode cX11_shapeOf 71 = .ok (.ineg, 1) := by decide +kernel
theorem dX11_shapeOf_72 : decode cX11_shapeOf 72 = .ok (.iand, 1) := by decide +kernel
theorem dX11_shapeOf_73 : decode cX11_shapeOf 73 = .ok (.ireturn, 1) := by decide +kernel
theorem dX11_shapeOf_74 : decode cX11_shapeOf 74 = .ok (.iconst 2, 1) := by decide +kernel
theorem dX11_shapeOf_75 : decode cX11_shapeOf 75 = .ok (.aload_n 0, 1) := by decide +kernel
theorem dX11_shapeOf_76 : decode cX11_shapeOf 76 = .ok (.getfield 16, 3) := by decide +kernel
theorem dX11_shapeOf_79 : decode cX11_shapeOf 79 = .ok (.iload_n 1, 1) := by decide +kernel
theorem dX11_shapeOf_80 : decode cX11_shapeOf 80 = .ok (.iaload, 1) := by decide +kernel
theorem dX11_shapeOf_81 : decode cX11_shapeOf 81 = .ok (.iconst 2, 1) := by decide +kernel
theorem dX11_shapeOf_82 : decode cX11_shapeOf 82 = .ok (.idiv, 1) := by decide +kernel
theorem dX11_shapeOf_83 : decode cX11_shapeOf 83 = .ok (.ishl, 1) := by decide +kernel
theorem dX11_shapeOf_84 : decode cX11_shapeOf 84 = .ok (.iconst 1, 1) := by decide +kernel
theorem dX11_shapeOf_85 : decode cX11_shapeOf 85 = .ok (.isub, 1) := by decide +kernel
theorem dX11_shapeOf_86 : decode cX11_shapeOf 86 = .ok (.ireturn, 1) := by decide +kernel
theorem dX11_shapeOf_87 : decode cX11_shapeOf 87 = .ok (.iload_n 3, 1) := by decide +kernel
theorem dX11_shapeOf_88 : decode cX11_shapeOf 88 = .ok (.ireturn, 1) := by decide +kernel
theorem dX11_shape_0 : decode cX11_shape 0 = .ok (.aload_n 0, 1) := by decide +kernel
theorem dX11_shape_1 : decode cX11_shape 1 = .ok (.iload_n 1, 1) := by decide +kernel
theorem dX11_shape_2 : decode cX11_shape 2 = .ok (.invokevirtual 179, 3) := by decide +kernel
theorem dX11_shape_5 : decode cX11_shape 5 = .ok (.ifCond .eq 20, 3) := by decide +kernel
theorem dX11_shape_8 : decode cX11_shape 8 = .ok (.aload_n 0, 1) := by decide +kernel
theorem dX11_shape_9 : decode cX11_shape 9 = .ok (.iload_n 2, 1) := by decide +kernel
theorem dX11_shape_10 : decode cX11_shape 10 = .ok (.invokevirtual 182, 3) := by decide +kernel
theorem dX11_shape_13 : decode cX11_shape 13 = .ok (.ifCond .eq 12, 3) := by decide +kernel
theorem dX11_shape_16 : decode cX11_shape 16 = .ok (.aload_n 0, 1) := by decide +kernel
theorem dX11_shape_17 : decode cX11_shape 17 = .ok (.iload_n 1, 1) := by decide +kernel
theorem dX11_shape_18 : decode cX11_shape 18 = .ok (.iload_n 2, 1) := by decide +kernel
theorem dX11_shape_19 : decode cX11_shape 19 = .ok (.invokevirtual 189, 3) := by decide +kernel
theorem dX11_shape_22 : decode cX11_shape 22 = .ok (.goto 5, 3) := by decide +kernel
theorem dX11_shape_25 : decode cX11_shape 25 = .ok (.bipush (-5), 2) := by decide +kernel
theorem dX11_shape_27 : decode cX11_shape 27 = .ok (.ireturn, 1) := by decide +kernel
theorem dX11_markBy_0 : decode cX11_markBy 0 = .ok (.iconst 0, 1) := by decide +kernel
theorem dX11_markBy_1 : decode cX11_markBy 1 = .ok (.istore_n 3, 1) := by decide +kernel
theorem dX11_markBy_2 : decode cX11_markBy 2 = .ok (.iconst 0, 1) := by decide +kernel
theorem dX11_markBy_3 : decode cX11_markBy 3 = .ok (.istore 4, 2) := by decide +kernel
theorem dX11_markBy_5 : decode cX11_markBy 5 = .ok (.iload 4, 2) := by decide +kernel
theorem dX11_markBy_7 : decode cX11_markBy 7 = .ok (.bipush 10, 2) := by decide +kernel
theorem dX11_markBy_9 : decode cX11_markBy 9 = .ok (.if_icmp .ge 64, 3) := by decide +kernel
theorem dX11_markBy_12 : decode cX11_markBy 12 = .ok (.iload 4, 2) := by decide +kernel
theorem dX11_markBy_14 : decode cX11_markBy 14 = .ok (.iload_n 2, 1) := by decide +kernel
theorem dX11_markBy_15 : decode cX11_markBy 15 = .ok (.isub, 1) := by decide +kernel
theorem dX11_markBy_16 : decode cX11_markBy 16 = .ok (.bipush 6, 2) := by decide +kernel
theorem dX11_markBy_18 : decode cX11_markBy 18 = .ok (.iadd, 1) := by decide +kernel
theorem dX11_markBy_19 : decode cX11_markBy 19 = .ok (.istore 5, 2) := by decide +kernel
theorem dX11_markBy_21 : decode cX11_markBy 21 = .ok (.iload 5, 2) := by decide +kernel
theorem dX11_markBy_23 : decode cX11_markBy 23 = .ok (.ifCond .lt 23, 3) := by decide +kernel
theorem dX11_markBy_26 : decode cX11_markBy 26 = .ok (.iload_n 0, 1) := by decide +kernel
theorem dX11_markBy_27 : decode cX11_markBy 27 = .ok (.iload 5, 2) := by decide +kernel
theorem dX11_markBy_29 : decode cX11_markBy 29 = .ok (.iconst 0, 1) := by decide +kernel
theorem dX11_markBy_30 : decode cX11_markBy 30 = .ok (.bipush 30, 2) := by decide +kernel
theorem dX11_markBy_32 : decode cX11_markBy 32 = .ok (.invokestatic 176, 3) := by decide +kernel
theorem dX11_markBy_35 : decode cX11_markBy 35 = .ok (.ishr, 1) := by decide +kernel
theorem dX11_markBy_36 : decode cX11_markBy 36 = .ok (.iconst 1, 1) := by decide +kernel
theorem dX11_markBy_37 : decode cX11_markBy 37 = .ok (.iand, 1) := by decide +kernel
theorem dX11_markBy_38 : decode cX11_markBy 38 = .ok (.iconst 1, 1) := by decide +kernel
theorem dX11_markBy_39 : decode cX11_markBy 39 = .ok (.if_icmp .ne 7, 3) := by decide +kernel
theorem dX11_markBy_42 : decode cX11_markBy 42 = .ok (.iconst 1, 1) := by decide +kernel
theorem dX11_markBy_43 : decode cX11_markBy 43 = .ok (.goto 4, 3) := by decide +kernel
theorem dX11_markBy_46 : decode cX11_markBy 46 = .ok (.iconst 0, 1) := by decide +kernel
theorem dX11_markBy_47 : decode cX11_markBy 47 = .ok (.istore 6, 2) := by decide +kernel
theorem dX11_markBy_49 : decode cX11_markBy 49 = .ok (.iload_n 3, 1) := by decide +kernel
theorem dX11_markBy_50 : decode cX11_markBy 50 = .ok (.iload 6, 2) := by decide +kernel
theorem dX11_markBy_52 : decode cX11_markBy 52 = .ok (.ifCond .eq 12, 3) := by decide +kernel
theorem dX11_markBy_55 : decode cX11_markBy 55 = .ok (.iload_n 1, 1) := by decide +kernel
theorem dX11_markBy_56 : decode cX11_markBy 56 = .ok (.iconst 1, 1) := by decide +kernel
theorem dX11_markBy_57 : decode cX11_markBy 57 = .ok (.iload 4, 2) := by decide +kernel
theorem dX11_markBy_59 : decode cX11_markBy 59 = .ok (.ishl, 1) := by decide +kernel
theorem dX11_markBy_60 : decode cX11_markBy 60 = .ok (.iand, 1) := by decide +kernel
theorem dX11_markBy_61 : decode cX11_markBy 61 = .ok (.goto 4, 3) := by decide +kernel
theorem dX11_markBy_64 : decode cX11_markBy 64 = .ok (.iconst 0, 1) := by decide +kernel
theorem dX11_markBy_65 : decode cX11_markBy 65 = .ok (.ior, 1) := by decide +kernel
theorem dX11_markBy_66 : decode cX11_markBy 66 = .ok (.istore_n 3, 1) := by decide +kernel
theorem dX11_markBy_67 : decode cX11_markBy 67 = .ok (.iinc 4 1, 3) := by decide +kernel
theorem dX11_markBy_70 : decode cX11_markBy 70 = .ok (.goto (-65), 3) := by decide +kernel
theorem dX11_markBy_73 : decode cX11_markBy 73 = .ok (.iload_n 3, 1) := by decide +kernel
theorem dX11_markBy_74 : decode cX11_markBy 74 = .ok (.ireturn, 1) := by decide +kernel
theorem dX11_markOf_0 : decode cX11_markOf 0 = .ok (.aload_n 0, 1) := by decide +kernel
theorem dX11_markOf_1 : decode cX11_markOf 1 = .ok (.iload_n 1, 1) := by decide +kernel
theorem dX11_markOf_2 : decode cX11_markOf 2 = .ok (.iload_n 2, 1) := by decide +kernel
theorem dX11_markOf_3 : decode cX11_markOf 3 = .ok (.invokevirtual 189, 3) := by decide +kernel
theorem dX11_markOf_6 : decode cX11_markOf 6 = .ok (.aload_n 0, 1) := by decide +kernel
theorem dX11_markOf_7 : decode cX11_markOf 7 = .ok (.iload_n 2, 1) := by decide +kernel
theorem dX11_markOf_8 : decode cX11_markOf 8 = .ok (.invokevirtual 167, 3) := by decide +kernel
theorem dX11_markOf_11 : decode cX11_markOf 11 = .ok (.iload_n 3, 1) := by decide +kernel
theorem dX11_markOf_12 : decode cX11_markOf 12 = .ok (.invokestatic 192, 3) := by decide +kernel
theorem dX11_markOf_15 : decode cX11_markOf 15 = .ok (.ireturn, 1) := by decide +kernel
theorem dX11_worthAll_0 : decode cX11_worthAll 0 = .ok (.iconst 0, 1) := by decide +kernel
theorem dX11_worthAll_1 : decode cX11_worthAll 1 = .ok (.istore_n 3, 1) := by decide +kernel
theorem dX11_worthAll_2 : decode cX11_worthAll 2 = .ok (.iconst 0, 1) := by decide +kernel
theorem dX11_worthAll_3 : decode cX11_worthAll 3 = .ok (.istore 4, 2) := by decide +kernel
theorem dX11_worthAll_5 : decode cX11_worthAll 5 = .ok (.iload 4, 2) := by decide +kernel
theorem dX11_worthAll_7 : decode cX11_worthAll 7 = .ok (.bipush 10, 2) := by decide +kernel
theorem dX11_worthAll_9 : decode cX11_worthAll 9 = .ok (.if_icmp .ge 38, 3) := by decide +kernel
theorem dX11_worthAll_12 : decode cX11_worthAll 12 = .ok (.iload_n 3, 1) := by decide +kernel
theorem dX11_worthAll_13 : decode cX11_worthAll 13 = .ok (.iload_n 2, 1) := by decide +kernel
theorem dX11_worthAll_14 : decode cX11_worthAll 14 = .ok (.iload 4, 2) := by decide +kernel
theorem dX11_worthAll_16 : decode cX11_worthAll 16 = .ok (.ishr, 1) := by decide +kernel
theorem dX11_worthAll_17 : decode cX11_worthAll 17 = .ok (.iconst 1, 1) := by decide +kernel
theorem dX11_worthAll_18 : decode cX11_worthAll 18 = .ok (.iand, 1) := by decide +kernel
theorem dX11_worthAll_19 : decode cX11_worthAll 19 = .ok (.iconst 1, 1) := by decide +kernel
theorem dX11_worthAll_20 : decode cX11_worthAll 20 = .ok (.if_icmp .ne 18, 3) := by decide +kernel
theorem dX11_worthAll_23 : decode cX11_worthAll 23 = .ok (.aload_n 0, 1) := by decide +kernel
theorem dX11_worthAll_24 : decode cX11_worthAll 24 = .ok (.getfield 7, 3) := by decide +kernel
theorem dX11_worthAll_27 : decode cX11_worthAll 27 = .ok (.bipush 12, 2) := by decide +kernel
theorem dX11_worthAll_29 : decode cX11_worthAll 29 = .ok (.iload_n 1, 1) := by decide +kernel
theorem dX11_worthAll_30 : decode cX11_worthAll 30 = .ok (.imul, 1) := by decide +kernel
theorem dX11_worthAll_31 : decode cX11_worthAll 31 = .ok (.iload 4, 2) := by decide +kernel
theorem dX11_worthAll_33 : decode cX11_worthAll 33 = .ok (.iadd, 1) := by decide +kernel
theorem dX11_worthAll_34 : decode cX11_worthAll 34 = .ok (.iaload, 1) := by decide +kernel
theorem dX11_worthAll_35 : decode cX11_worthAll 35 = .ok (.goto 4, 3) := by decide +kernel
theorem dX11_worthAll_38 : decode cX11_worthAll 38 = .ok (.iconst 0, 1) := by decide +kernel
theorem dX11_worthAll_39 : decode cX11_worthAll 39 = .ok (.iadd, 1) := by decide +kernel
theorem dX11_worthAll_40 : decode cX11_worthAll 40 = .ok (.istore_n 3, 1) := by decide +kernel
theorem dX11_worthAll_41 : decode cX11_worthAll 41 = .ok (.iinc 4 1, 3) := by decide +kernel
theorem dX11_worthAll_44 : decode cX11_worthAll 44 = .ok (.goto (-39), 3) := by decide +kernel
theorem dX11_worthAll_47 : decode cX11_worthAll 47 = .ok (.iload_n 3, 1) := by decide +kernel
theorem dX11_worthAll_48 : decode cX11_worthAll 48 = .ok (.ireturn, 1) := by decide +kernel
theorem dX11_costsOf_0 : decode cX11_costsOf 0 = .ok (.aload_n 0, 1) := by decide +kernel
theorem dX11_costsOf_1 : decode cX11_costsOf 1 = .ok (.iconst 0, 1) := by decide +kernel
theorem dX11_costsOf_2 : decode cX11_costsOf 2 = .ok (.iload_n 1, 1) := by decide +kernel
theorem dX11_costsOf_3 : decode cX11_costsOf 3 = .ok (.iload_n 2, 1) := by decide +kernel
theorem dX11_costsOf_4 : decode cX11_costsOf 4 = .ok (.iload_n 3, 1) := by decide +kernel
theorem dX11_costsOf_5 : decode cX11_costsOf 5 = .ok (.invokestatic 170, 3) := by decide +kernel
theorem dX11_costsOf_8 : decode cX11_costsOf 8 = .ok (.aload_n 0, 1) := by decide +kernel
theorem dX11_costsOf_9 : decode cX11_costsOf 9 = .ok (.iload_n 2, 1) := by decide +kernel
theorem dX11_costsOf_10 : decode cX11_costsOf 10 = .ok (.iload_n 3, 1) := by decide +kernel
theorem dX11_costsOf_11 : decode cX11_costsOf 11 = .ok (.invokevirtual 195, 3) := by decide +kernel
theorem dX11_costsOf_14 : decode cX11_costsOf 14 = .ok (.invokevirtual 185, 3) := by decide +kernel
theorem dX11_costsOf_17 : decode cX11_costsOf 17 = .ok (.istore 4, 2) := by decide +kernel
theorem dX11_costsOf_19 : decode cX11_costsOf 19 = .ok (.aload_n 0, 1) := by decide +kernel
theorem dX11_costsOf_20 : decode cX11_costsOf 20 = .ok (.getfield 13, 3) := by decide +kernel
theorem dX11_costsOf_23 : decode cX11_costsOf 23 = .ok (.iload_n 1, 1) := by decide +kernel
theorem dX11_costsOf_24 : decode cX11_costsOf 24 = .ok (.iaload, 1) := by decide +kernel
theorem dX11_costsOf_25 : decode cX11_costsOf 25 = .ok (.tableswitch 79 2 5 #[31, 79, 48, 74], 31) := by decide +kernel
theorem dX11_costsOf_56 : decode cX11_costsOf 56 = .ok (.aload_n 0, 1) := by decide +kernel
theorem dX11_costsOf_57 : decode cX11_costsOf 57 = .ok (.iload_n 2, 1) := by decide +kernel
theorem dX11_costsOf_58 : decode cX11_costsOf 58 = .ok (.invokevirtual 164, 3) := by decide +kernel
theorem dX11_costsOf_61 : decode cX11_costsOf 61 = .ok (.bipush 6, 2) := by decide +kernel
theorem dX11_costsOf_63 : decode cX11_costsOf 63 = .ok (.if_icmp .le 7, 3) := by decide +kernel
theorem dX11_costsOf_66 : decode cX11_costsOf 66 = .ok (.iconst 0, 1) := by decide +kernel
theorem dX11_costsOf_67 : decode cX11_costsOf 67 = .ok (.goto 5, 3) := by decide +kernel
theorem dX11_costsOf_70 : decode cX11_costsOf 70 = .ok (.iload 4, 2) := by decide +kernel
theorem dX11_costsOf_72 : decode cX11_costsOf 72 = .ok (.ireturn, 1) := by decide +kernel
theorem dX11_costsOf_73 : decode cX11_costsOf 73 = .ok (.aload_n 0, 1) := by decide +kernel
theorem dX11_costsOf_74 : decode cX11_costsOf 74 = .ok (.iload_n 2, 1) := by decide +kernel
theorem dX11_costsOf_75 : decode cX11_costsOf 75 = .ok (.invokevirtual 164, 3) := by decide +kernel
theorem dX11_costsOf_78 : decode cX11_costsOf 78 = .ok (.bipush 6, 2) := by decide +kernel
theorem dX11_costsOf_80 : decode cX11_costsOf 80 = .ok (.if_icmp .le 7, 3) := by decide +kernel
theorem dX11_costsOf_83 : decode cX11_costsOf 83 = .ok (.iconst 0, 1) := by decide +kernel
theorem dX11_costsOf_84 : decode cX11_costsOf 84 = .ok (.goto 5, 3) := by decide +kernel
theorem dX11_costsOf_87 : decode cX11_costsOf 87 = .ok (.iload 4, 2) := by decide +kernel
theorem dX11_costsOf_89 : decode cX11_costsOf 89 = .ok (.aload_n 0, 1) := by decide +kernel
theorem dX11_costsOf_90 : decode cX11_costsOf 90 = .ok (.getfield 16, 3) := by decide +kernel
theorem dX11_costsOf_93 : decode cX11_costsOf 93 = .ok (.iload_n 1, 1) := by decide +kernel
theorem dX11_costsOf_94 : decode cX11_costsOf 94 = .ok (.iaload, 1) := by decide +kernel
theorem dX11_costsOf_95 : decode cX11_costsOf 95 = .ok (.iconst 3, 1) := by decide +kernel
theorem dX11_costsOf_96 : decode cX11_costsOf 96 = .ok (.idiv, 1) := by decide +kernel
theorem dX11_costsOf_97 : decode cX11_costsOf 97 = .ok (.iadd, 1) := by decide +kernel
theorem dX11_costsOf_98 : decode cX11_costsOf 98 = .ok (.ireturn, 1) := by decide +kernel
theorem dX11_costsOf_99 : decode cX11_costsOf 99 = .ok (.iload 4, 2) := by decide +kernel
theorem dX11_costsOf_101 : decode cX11_costsOf 101 = .ok (.iconst 3, 1) := by decide +kernel
theorem dX11_costsOf_102 : decode cX11_costsOf 102 = .ok (.iadd, 1) := by decide +kernel
theorem dX11_costsOf_103 : decode cX11_costsOf 103 = .ok (.ireturn, 1) := by decide +kernel
theorem dX11_costsOf_104 : decode cX11_costsOf 104 = .ok (.iload 4, 2) := by decide +kernel
theorem dX11_costsOf_106 : decode cX11_costsOf 106 = .ok (.ireturn, 1) := by decide +kernel
theorem dX11_likesOf_0 : decode cX11_likesOf 0 = .ok (.iconst 0, 1) := by decide +kernel
theorem dX11_likesOf_1 : decode cX11_likesOf 1 = .ok (.istore 4, 2) := by decide +kernel
theorem dX11_likesOf_3 : decode cX11_likesOf 3 = .ok (.iconst 0, 1) := by decide +kernel
theorem dX11_likesOf_4 : decode cX11_likesOf 4 = .ok (.istore 5, 2) := by decide +kernel
theorem dX11_likesOf_6 : decode cX11_likesOf 6 = .ok (.iload 5, 2) := by decide +kernel
theorem dX11_likesOf_8 : decode cX11_likesOf 8 = .ok (.bipush 10, 2) := by decide +kernel
theorem dX11_likesOf_10 : decode cX11_likesOf 10 = .ok (.if_icmp .ge 90, 3) := by decide +kernel
theorem dX11_likesOf_13 : decode cX11_likesOf 13 = .ok (.iload_n 3, 1) := by decide +kernel
theorem dX11_likesOf_14 : decode cX11_likesOf 14 = .ok (.iload 5, 2) := by decide +kernel
theorem dX11_likesOf_16 : decode cX11_likesOf 16 = .ok (.ishr, 1) := by decide +kernel
theorem dX11_likesOf_17 : decode cX11_likesOf 17 = .ok (.iconst 1, 1) := by decide +kernel
theorem dX11_likesOf_18 : decode cX11_likesOf 18 = .ok (.iand, 1) := by decide +kernel
theorem dX11_likesOf_19 : decode cX11_likesOf 19 = .ok (.iconst 1, 1) := by decide +kernel
theorem dX11_likesOf_20 : decode cX11_likesOf 20 = .ok (.if_icmp .ne 74, 3) := by decide +kernel
theorem dX11_likesOf_23 : decode cX11_likesOf 23 = .ok (.aload_n 0, 1) := by decide +kernel
theorem dX11_likesOf_24 : decode cX11_likesOf 24 = .ok (.iconst 1, 1) := by decide +kernel
theorem dX11_likesOf_25 : decode cX11_likesOf 25 = .ok (.iload_n 1, 1) := by decide +kernel
theorem dX11_likesOf_26 : decode cX11_likesOf 26 = .ok (.iload_n 2, 1) := by decide +kernel
theorem dX11_likesOf_27 : decode cX11_likesOf 27 = .ok (.iload_n 3, 1) := by decide +kernel
theorem dX11_likesOf_28 : decode cX11_likesOf 28 = .ok (.invokestatic 170, 3) := by decide +kernel
theorem dX11_likesOf_31 : decode cX11_likesOf 31 = .ok (.aload_n 0, 1) := by decide +kernel
theorem dX11_likesOf_32 : decode cX11_likesOf 32 = .ok (.getfield 7, 3) := by decide +kernel
theorem dX11_likesOf_35 : decode cX11_likesOf 35 = .ok (.bipush 12, 2) := by decide +kernel
theorem dX11_likesOf_37 : decode cX11_likesOf 37 = .ok (.iload_n 2, 1) := by decide +kernel
theorem dX11_likesOf_38 : decode cX11_likesOf 38 = .ok (.imul, 1) := by decide +kernel
theorem dX11_likesOf_39 : decode cX11_likesOf 39 = .ok (.iload 5, 2) := by decide +kernel
theorem dX11_likesOf_41 : decode cX11_likesOf 41 = .ok (.iadd, 1) := by decide +kernel
theorem dX11_likesOf_42 : decode cX11_likesOf 42 = .ok (.iaload, 1) := by decide +kernel
theorem dX11_likesOf_43 : decode cX11_likesOf 43 = .ok (.invokevirtual 185, 3) := by decide +kernel
theorem dX11_likesOf_46 : decode cX11_likesOf 46 = .ok (.istore 6, 2) := by decide +kernel
theorem dX11_likesOf_48 : decode cX11_likesOf 48 = .ok (.iload 4, 2) := by decide +kernel
theorem dX11_likesOf_50 : decode cX11_likesOf 50 = .ok (.aload_n 0, 1) := by decide +kernel
theorem dX11_likesOf_51 : decode cX11_likesOf 51 = .ok (.getfield 13, 3) := by decide +kernel
theorem dX11_likesOf_54 : decode cX11_likesOf 54 = .ok (.iload_n 1, 1) := by decide +kernel
theorem dX11_likesOf_55 : decode cX11_likesOf 55 = .ok (.iaload, 1) := by decide +kernel
theorem dX11_likesOf_56 : decode cX11_likesOf 56 = .ok (.iconst 3, 1) := by decide +kernel
theorem dX11_likesOf_57 : decode cX11_likesOf 57 = .ok (.if_icmp .ne 15, 3) := by decide +kernel
theorem dX11_likesOf_60 : decode cX11_likesOf 60 = .ok (.iload 6, 2) := by decide +kernel
theorem dX11_likesOf_62 : decode cX11_likesOf 62 = .ok (.aload_n 0, 1) := by decide +kernel
theorem dX11_likesOf_63 : decode cX11_likesOf 63 = .ok (.getfield 16, 3) := by decide +kernel
theorem dX11_likesOf_66 : decode cX11_likesOf 66 = .ok (.iload_n 1, 1) := by decide +kernel
theorem dX11_likesOf_67 : decode cX11_likesOf 67 = .ok (.iaload, 1) := by decide +kernel
theorem dX11_likesOf_68 : decode cX11_likesOf 68 = .ok (.iadd, 1) := by decide +kernel
theorem dX11_likesOf_69 : decode cX11_likesOf 69 = .ok (.goto 22, 3) := by decide +kernel
theorem dX11_likesOf_72 : decode cX11_likesOf 72 = .ok (.aload_n 0, 1) := by decide +kernel
theorem dX11_likesOf_73 : decode cX11_likesOf 73 = .ok (.getfield 13, 3) := by decide +kernel
theorem dX11_likesOf_76 : decode cX11_likesOf 76 = .ok (.iload_n 1, 1) := by decide +kernel
theorem dX11_likesOf_77 : decode cX11_likesOf 77 = .ok (.iaload, 1) := by decide +kernel
theorem dX11_likesOf_78 : decode cX11_likesOf 78 = .ok (.iconst 4, 1) := by decide +kernel
theorem dX11_likesOf_79 : decode cX11_likesOf 79 = .ok (.if_icmp .ne 10, 3) := by decide +kernel
theorem dX11_likesOf_82 : decode cX11_likesOf 82 = .ok (.iconst 2, 1) := by decide +kernel
theorem dX11_likesOf_83 : decode cX11_likesOf 83 = .ok (.iload 6, 2) := by decide +kernel
theorem dX11_likesOf_85 : decode cX11_likesOf 85 = .ok (.imul, 1) := by decide +kernel
theorem dX11_likesOf_86 : decode cX11_likesOf 86 = .ok (.goto 5, 3) := by decide +kernel
theorem dX11_likesOf_89 : decode cX11_likesOf 89 = .ok (.iload 6, 2) := by decide +kernel
theorem dX11_likesOf_91 : decode cX11_likesOf 91 = .ok (.iadd, 1) := by decide +kernel
theorem dX11_likesOf_92 : decode cX11_likesOf 92 = .ok (.istore 4, 2) := by decide +kernel
theorem dX11_likesOf_94 : decode cX11_likesOf 94 = .ok (.iinc 5 1, 3) := by decide +kernel
theorem dX11_likesOf_97 : decode cX11_likesOf 97 = .ok (.goto (-91), 3) := by decide +kernel
theorem dX11_likesOf_100 : decode cX11_likesOf 100 = .ok (.iload 4, 2) := by decide +kernel
theorem dX11_likesOf_102 : decode cX11_likesOf 102 = .ok (.ireturn, 1) := by decide +kernel
theorem dX11_canBe_0 : decode cX11_canBe 0 = .ok (.aload_n 0, 1) := by decide +kernel
theorem dX11_canBe_1 : decode cX11_canBe 1 = .ok (.iload_n 1, 1) := by decide +kernel
theorem dX11_canBe_2 : decode cX11_canBe 2 = .ok (.iload_n 2, 1) := by decide +kernel
theorem dX11_canBe_3 : decode cX11_canBe 3 = .ok (.iload_n 3, 1) := by decide +kernel
theorem dX11_canBe_4 : decode cX11_canBe 4 = .ok (.invokevirtual 198, 3) := by decide +kernel
theorem dX11_canBe_7 : decode cX11_canBe 7 = .ok (.istore 4, 2) := by decide +kernel
theorem dX11_canBe_9 : decode cX11_canBe 9 = .ok (.iload 4, 2) := by decide +kernel
theorem dX11_canBe_11 : decode cX11_canBe 11 = .ok (.ifCond .eq 28, 3) := by decide +kernel
theorem dX11_canBe_14 : decode cX11_canBe 14 = .ok (.aload_n 0, 1) := by decide +kernel
theorem dX11_canBe_15 : decode cX11_canBe 15 = .ok (.iload_n 1, 1) := by decide +kernel
theorem dX11_canBe_16 : decode cX11_canBe 16 = .ok (.iload_n 2, 1) := by decide +kernel
theorem dX11_canBe_17 : decode cX11_canBe 17 = .ok (.iload 4, 2) := by decide +kernel
theorem dX11_canBe_19 : decode cX11_canBe 19 = .ok (.invokevirtual 201, 3) := by decide +kernel
theorem dX11_canBe_22 : decode cX11_canBe 22 = .ok (.aload_n 0, 1) := by decide +kernel
theorem dX11_canBe_23 : decode cX11_canBe 23 = .ok (.getfield 19, 3) := by decide +kernel
theorem dX11_canBe_26 : decode cX11_canBe 26 = .ok (.iconst 3, 1) := by decide +kernel
theorem dX11_canBe_27 : decode cX11_canBe 27 = .ok (.iload_n 1, 1) := by decide +kernel
theorem dX11_canBe_28 : decode cX11_canBe 28 = .ok (.imul, 1) := by decide +kernel
theorem dX11_canBe_29 : decode cX11_canBe 29 = .ok (.iconst 1, 1) := by decide +kernel
theorem dX11_canBe_30 : decode cX11_canBe 30 = .ok (.iadd, 1) := by decide +kernel
theorem dX11_canBe_31 : decode cX11_canBe 31 = .ok (.iaload, 1) := by decide +kernel
theorem dX11_canBe_32 : decode cX11_canBe 32 = .ok (.if_icmp .gt 7, 3) := by decide +kernel
theorem dX11_canBe_35 : decode cX11_canBe 35 = .ok (.iconst 1, 1) := by decide +kernel
theorem dX11_canBe_36 : decode cX11_canBe 36 = .ok (.goto 4, 3) := by decide +kernel
theorem dX11_canBe_39 : decode cX11_canBe 39 = .ok (.iconst 0, 1) := by decide +kernel
theorem dX11_canBe_40 : decode cX11_canBe 40 = .ok (.ireturn, 1) := by decide +kernel
theorem dX11_mark_0 : decode cX11_mark 0 = .ok (.aload_n 0, 1) := by decide +kernel
theorem dX11_mark_1 : decode cX11_mark 1 = .ok (.iload_n 1, 1) := by decide +kernel
theorem dX11_mark_2 : decode cX11_mark 2 = .ok (.invokevirtual 179, 3) := by decide +kernel
theorem dX11_mark_5 : decode cX11_mark 5 = .ok (.ifCond .eq 11, 3) := by decide +kernel
theorem dX11_mark_8 : decode cX11_mark 8 = .ok (.aload_n 0, 1) := by decide +kernel
theorem dX11_mark_9 : decode cX11_mark 9 = .ok (.iload_n 2, 1) := by decide +kernel
theorem dX11_mark_10 : decode cX11_mark 10 = .ok (.invokevirtual 182, 3) := by decide +kernel
theorem dX11_mark_13 : decode cX11_mark 13 = .ok (.ifCond .ne 6, 3) := by decide +kernel
theorem dX11_mark_16 : decode cX11_mark 16 = .ok (.bipush (-5), 2) := by decide +kernel
theorem dX11_mark_18 : decode cX11_mark 18 = .ok (.ireturn, 1) := by decide +kernel
theorem dX11_mark_19 : decode cX11_mark 19 = .ok (.iload_n 3, 1) := by decide +kernel
theorem dX11_mark_20 : decode cX11_mark 20 = .ok (.invokestatic 204, 3) := by decide +kernel
theorem dX11_mark_23 : decode cX11_mark 23 = .ok (.ifCond .eq 13, 3) := by decide +kernel
theorem dX11_mark_26 : decode cX11_mark 26 = .ok (.iload 4, 2) := by decide +kernel
theorem dX11_mark_28 : decode cX11_mark 28 = .ok (.iconst 0, 1) := by decide +kernel
theorem dX11_mark_29 : decode cX11_mark 29 = .ok (.iconst 2, 1) := by decide +kernel
theorem dX11_mark_30 : decode cX11_mark 30 = .ok (.invokestatic 84, 3) := by decide +kernel
theorem dX11_mark_33 : decode cX11_mark 33 = .ok (.ifCond .ne 6, 3) := by decide +kernel
theorem dX11_mark_36 : decode cX11_mark 36 = .ok (.bipush (-7), 2) := by decide +kernel
theorem dX11_mark_38 : decode cX11_mark 38 = .ok (.ireturn, 1) := by decide +kernel
theorem dX11_mark_39 : decode cX11_mark 39 = .ok (.aload_n 0, 1) := by decide +kernel
theorem dX11_mark_40 : decode cX11_mark 40 = .ok (.iload_n 1, 1) := by decide +kernel
theorem dX11_mark_41 : decode cX11_mark 41 = .ok (.iload_n 2, 1) := by decide +kernel
theorem dX11_mark_42 : decode cX11_mark 42 = .ok (.iload_n 3, 1) := by decide +kernel
theorem dX11_mark_43 : decode cX11_mark 43 = .ok (.invokevirtual 198, 3) := by decide +kernel
theorem dX11_mark_46 : decode cX11_mark 46 = .ok (.istore 5, 2) := by decide +kernel
theorem dX11_mark_48 : decode cX11_mark 48 = .ok (.iload 4, 2) := by decide +kernel
theorem dX11_mark_50 : decode cX11_mark 50 = .ok (.ifCond .ne 8, 3) := by decide +kernel
theorem dX11_mark_53 : decode cX11_mark 53 = .ok (.iload 5, 2) := by decide +kernel
theorem dX11_mark_55 : decode cX11_mark 55 = .ok (.goto 28, 3) := by decide +kernel
theorem dX11_mark_58 : decode cX11_mark 58 = .ok (.iload 4, 2) := by decide +kernel
theorem dX11_mark_60 : decode cX11_mark 60 = .ok (.iconst 1, 1) := by decide +kernel
theorem dX11_mark_61 : decode cX11_mark 61 = .ok (.if_icmp .ne 14, 3) := by decide +kernel
theorem dX11_mark_64 : decode cX11_mark 64 = .ok (.aload_n 0, 1) := by decide +kernel
theorem dX11_mark_65 : decode cX11_mark 65 = .ok (.iload_n 1, 1) := by decide +kernel
theorem dX11_mark_66 : decode cX11_mark 66 = .ok (.iload_n 2, 1) := by decide +kernel
theorem dX11_mark_67 : decode cX11_mark 67 = .ok (.iload 5, 2) := by decide +kernel
theorem dX11_mark_69 : decode cX11_mark 69 = .ok (.invokevirtual 201, 3) := by decide +kernel
theorem dX11_mark_72 : decode cX11_mark 72 = .ok (.goto 11, 3) := by decide +kernel
theorem dX11_mark_75 : decode cX11_mark 75 = .ok (.aload_n 0, 1) := by decide +kernel
theorem dX11_mark_76 : decode cX11_mark 76 = .ok (.iload_n 1, 1) := by decide +kernel
theorem dX11_mark_77 : decode cX11_mark 77 = .ok (.iload_n 2, 1) := by decide +kernel
theorem dX11_mark_78 : decode cX11_mark 78 = .ok (.iload 5, 2) := by decide +kernel
theorem dX11_mark_80 : decode cX11_mark 80 = .ok (.invokevirtual 207, 3) := by decide +kernel
theorem dX11_mark_83 : decode cX11_mark 83 = .ok (.ireturn, 1) := by decide +kernel
theorem dX11_bites_0 : decode cX11_bites 0 = .ok (.aload_n 0, 1) := by decide +kernel
theorem dX11_bites_1 : decode cX11_bites 1 = .ok (.iload_n 1, 1) := by decide +kernel
theorem dX11_bites_2 : decode cX11_bites 2 = .ok (.iload_n 2, 1) := by decide +kernel
theorem dX11_bites_3 : decode cX11_bites 3 = .ok (.iload_n 3, 1) := by decide +kernel
theorem dX11_bites_4 : decode cX11_bites 4 = .ok (.invokevirtual 198, 3) := by decide +kernel
theorem dX11_bites_7 : decode cX11_bites 7 = .ok (.istore 4, 2) := by decide +kernel
theorem dX11_bites_9 : decode cX11_bites 9 = .ok (.aload_n 0, 1) := by decide +kernel
theorem dX11_bites_10 : decode cX11_bites 10 = .ok (.iload_n 1, 1) := by decide +kernel
theorem dX11_bites_11 : decode cX11_bites 11 = .ok (.iload_n 2, 1) := by decide +kernel
theorem dX11_bites_12 : decode cX11_bites 12 = .ok (.iload 4, 2) := by decide +kernel
theorem dX11_bites_14 : decode cX11_bites 14 = .ok (.invokevirtual 201, 3) := by decide +kernel
theorem dX11_bites_17 : decode cX11_bites 17 = .ok (.istore 5, 2) := by decide +kernel
theorem dX11_bites_19 : decode cX11_bites 19 = .ok (.aload_n 0, 1) := by decide +kernel
theorem dX11_bites_20 : decode cX11_bites 20 = .ok (.iload_n 1, 1) := by decide +kernel
theorem dX11_bites_21 : decode cX11_bites 21 = .ok (.iload_n 2, 1) := by decide +kernel
theorem dX11_bites_22 : decode cX11_bites 22 = .ok (.iload 4, 2) := by decide +kernel
theorem dX11_bites_24 : decode cX11_bites 24 = .ok (.invokevirtual 207, 3) := by decide +kernel
theorem dX11_bites_27 : decode cX11_bites 27 = .ok (.istore 6, 2) := by decide +kernel
theorem dX11_bites_29 : decode cX11_bites 29 = .ok (.aload_n 0, 1) := by decide +kernel
theorem dX11_bites_30 : decode cX11_bites 30 = .ok (.getfield 19, 3) := by decide +kernel
theorem dX11_bites_33 : decode cX11_bites 33 = .ok (.iconst 3, 1) := by decide +kernel
theorem dX11_bites_34 : decode cX11_bites 34 = .ok (.iload_n 1, 1) := by decide +kernel
theorem dX11_bites_35 : decode cX11_bites 35 = .ok (.imul, 1) := by decide +kernel
theorem dX11_bites_36 : decode cX11_bites 36 = .ok (.iconst 1, 1) := by decide +kernel
theorem dX11_bites_37 : decode cX11_bites 37 = .ok (.iadd, 1) := by decide +kernel
theorem dX11_bites_38 : decode cX11_bites 38 = .ok (.dup2, 1) := by decide +kernel
theorem dX11_bites_39 : decode cX11_bites 39 = .ok (.iaload, 1) := by decide +kernel
theorem dX11_bites_40 : decode cX11_bites 40 = .ok (.iload 5, 2) := by decide +kernel
theorem dX11_bites_42 : decode cX11_bites 42 = .ok (.isub, 1) := by decide +kernel
theorem dX11_bites_43 : decode cX11_bites 43 = .ok (.iastore, 1) := by decide +kernel
theorem dX11_bites_44 : decode cX11_bites 44 = .ok (.aload_n 0, 1) := by decide +kernel
theorem dX11_bites_45 : decode cX11_bites 45 = .ok (.getfield 19, 3) := by decide +kernel
theorem dX11_bites_48 : decode cX11_bites 48 = .ok (.iconst 3, 1) := by decide +kernel
theorem dX11_bites_49 : decode cX11_bites 49 = .ok (.iload_n 1, 1) := by decide +kernel
theorem dX11_bites_50 : decode cX11_bites 50 = .ok (.imul, 1) := by decide +kernel
theorem dX11_bites_51 : decode cX11_bites 51 = .ok (.iconst 2, 1) := by decide +kernel
theorem dX11_bites_52 : decode cX11_bites 52 = .ok (.iadd, 1) := by decide +kernel
theorem dX11_bites_53 : decode cX11_bites 53 = .ok (.aload_n 0, 1) := by decide +kernel
theorem dX11_bites_54 : decode cX11_bites 54 = .ok (.getfield 19, 3) := by decide +kernel
theorem dX11_bites_57 : decode cX11_bites 57 = .ok (.iconst 3, 1) := by decide +kernel
theorem dX11_bites_58 : decode cX11_bites 58 = .ok (.iload_n 1, 1) := by decide +kernel
theorem dX11_bites_59 : decode cX11_bites 59 = .ok (.imul, 1) := by decide +kernel
theorem dX11_bites_60 : decode cX11_bites 60 = .ok (.iconst 2, 1) := by decide +kernel
theorem dX11_bites_61 : decode cX11_bites 61 = .ok (.iadd, 1) := by decide +kernel
theorem dX11_bites_62 : decode cX11_bites 62 = .ok (.iaload, 1) := by decide +kernel
theorem dX11_bites_63 : decode cX11_bites 63 = .ok (.iload 6, 2) := by decide +kernel
theorem dX11_bites_65 : decode cX11_bites 65 = .ok (.iadd, 1) := by decide +kernel
theorem dX11_bites_66 : decode cX11_bites 66 = .ok (.iconst 0, 1) := by decide +kernel
theorem dX11_bites_67 : decode cX11_bites 67 = .ok (.sipush 9999, 3) := by decide +kernel
theorem dX11_bites_70 : decode cX11_bites 70 = .ok (.invokestatic 176, 3) := by decide +kernel
theorem dX11_bites_73 : decode cX11_bites 73 = .ok (.iastore, 1) := by decide +kernel
theorem dX11_bites_74 : decode cX11_bites 74 = .ok (.aload_n 0, 1) := by decide +kernel
theorem dX11_bites_75 : decode cX11_bites 75 = .ok (.getfield 7, 3) := by decide +kernel
theorem dX11_bites_78 : decode cX11_bites 78 = .ok (.bipush 12, 2) := by decide +kernel
theorem dX11_bites_80 : decode cX11_bites 80 = .ok (.iload_n 2, 1) := by decide +kernel
theorem dX11_bites_81 : decode cX11_bites 81 = .ok (.imul, 1) := by decide +kernel
theorem dX11_bites_82 : decode cX11_bites 82 = .ok (.bipush 11, 2) := by decide +kernel
theorem dX11_bites_84 : decode cX11_bites 84 = .ok (.iadd, 1) := by decide +kernel
theorem dX11_bites_85 : decode cX11_bites 85 = .ok (.dup2, 1) := by decide +kernel
theorem dX11_bites_86 : decode cX11_bites 86 = .ok (.iaload, 1) := by decide +kernel
theorem dX11_bites_87 : decode cX11_bites 87 = .ok (.iload 4, 2) := by decide +kernel
theorem dX11_bites_89 : decode cX11_bites 89 = .ok (.iconst (-1), 1) := by decide +kernel
theorem dX11_bites_90 : decode cX11_bites 90 = .ok (.ixor, 1) := by decide +kernel
theorem dX11_bites_91 : decode cX11_bites 91 = .ok (.iand, 1) := by decide +kernel
theorem dX11_bites_92 : decode cX11_bites 92 = .ok (.iastore, 1) := by decide +kernel
theorem dX11_bites_93 : decode cX11_bites 93 = .ok (.iload 6, 2) := by decide +kernel
theorem dX11_bites_95 : decode cX11_bites 95 = .ok (.iload 5, 2) := by decide +kernel
theorem dX11_bites_97 : decode cX11_bites 97 = .ok (.isub, 1) := by decide +kernel
theorem dX11_bites_98 : decode cX11_bites 98 = .ok (.ireturn, 1) := by decide +kernel
theorem dX11_bite_0 : decode cX11_bite 0 = .ok (.aload_n 0, 1) := by decide +kernel
theorem dX11_bite_1 : decode cX11_bite 1 = .ok (.iload_n 1, 1) := by decide +kernel
theorem dX11_bite_2 : decode cX11_bite 2 = .ok (.invokevirtual 179, 3) := by decide +kernel
theorem dX11_bite_5 : decode cX11_bite 5 = .ok (.ifCond .eq 11, 3) := by decide +kernel
theorem dX11_bite_8 : decode cX11_bite 8 = .ok (.aload_n 0, 1) := by decide +kernel
theorem dX11_bite_9 : decode cX11_bite 9 = .ok (.iload_n 2, 1) := by decide +kernel
theorem dX11_bite_10 : decode cX11_bite 10 = .ok (.invokevirtual 182, 3) := by decide +kernel
theorem dX11_bite_13 : decode cX11_bite 13 = .ok (.ifCond .ne 6, 3) := by decide +kernel
theorem dX11_bite_16 : decode cX11_bite 16 = .ok (.bipush (-5), 2) := by decide +kernel
theorem dX11_bite_18 : decode cX11_bite 18 = .ok (.ireturn, 1) := by decide +kernel
theorem dX11_bite_19 : decode cX11_bite 19 = .ok (.iload_n 3, 1) := by decide +kernel
theorem dX11_bite_20 : decode cX11_bite 20 = .ok (.invokestatic 204, 3) := by decide +kernel
theorem dX11_bite_23 : decode cX11_bite 23 = .ok (.ifCond .ne 6, 3) := by decide +kernel
theorem dX11_bite_26 : decode cX11_bite 26 = .ok (.bipush (-7), 2) := by decide +kernel
theorem dX11_bite_28 : decode cX11_bite 28 = .ok (.ireturn, 1) := by decide +kernel
theorem dX11_bite_29 : decode cX11_bite 29 = .ok (.aload_n 0, 1) := by decide +kernel
theorem dX11_bite_30 : decode cX11_bite 30 = .ok (.iload_n 1, 1) := by decide +kernel
theorem dX11_bite_31 : decode cX11_bite 31 = .ok (.iload_n 2, 1) := by decide +kernel
theorem dX11_bite_32 : decode cX11_bite 32 = .ok (.iload_n 3, 1) := by decide +kernel
theorem dX11_bite_33 : decode cX11_bite 33 = .ok (.invokevirtual 198, 3) := by decide +kernel
theorem dX11_bite_36 : decode cX11_bite 36 = .ok (.istore 4, 2) := by decide +kernel
theorem dX11_bite_38 : decode cX11_bite 38 = .ok (.iload 4, 2) := by decide +kernel
theorem dX11_bite_40 : decode cX11_bite 40 = .ok (.ifCond .ne 6, 3) := by decide +kernel
theorem dX11_bite_43 : decode cX11_bite 43 = .ok (.bipush (-3), 2) := by decide +kernel
theorem dX11_bite_45 : decode cX11_bite 45 = .ok (.ireturn, 1) := by decide +kernel
theorem dX11_bite_46 : decode cX11_bite 46 = .ok (.aload_n 0, 1) := by decide +kernel
theorem dX11_bite_47 : decode cX11_bite 47 = .ok (.iload_n 1, 1) := by decide +kernel
theorem dX11_bite_48 : decode cX11_bite 48 = .ok (.iload_n 2, 1) := by decide +kernel
theorem dX11_bite_49 : decode cX11_bite 49 = .ok (.iload 4, 2) := by decide +kernel
theorem dX11_bite_51 : decode cX11_bite 51 = .ok (.invokevirtual 201, 3) := by decide +kernel
theorem dX11_bite_54 : decode cX11_bite 54 = .ok (.istore 5, 2) := by decide +kernel
theorem dX11_bite_56 : decode cX11_bite 56 = .ok (.iload 5, 2) := by decide +kernel
theorem dX11_bite_58 : decode cX11_bite 58 = .ok (.aload_n 0, 1) := by decide +kernel
theorem dX11_bite_59 : decode cX11_bite 59 = .ok (.getfield 19, 3) := by decide +kernel
theorem dX11_bite_62 : decode cX11_bite 62 = .ok (.iconst 3, 1) := by decide +kernel
theorem dX11_bite_63 : decode cX11_bite 63 = .ok (.iload_n 1, 1) := by decide +kernel
theorem dX11_bite_64 : decode cX11_bite 64 = .ok (.imul, 1) := by decide +kernel
theorem dX11_bite_65 : decode cX11_bite 65 = .ok (.iconst 1, 1) := by decide +kernel
theorem dX11_bite_66 : decode cX11_bite 66 = .ok (.iadd, 1) := by decide +kernel
theorem dX11_bite_67 : decode cX11_bite 67 = .ok (.iaload, 1) := by decide +kernel
theorem dX11_bite_68 : decode cX11_bite 68 = .ok (.if_icmp .le 6, 3) := by decide +kernel
theorem dX11_bite_71 : decode cX11_bite 71 = .ok (.bipush (-4), 2) := by decide +kernel
theorem dX11_bite_73 : decode cX11_bite 73 = .ok (.ireturn, 1) := by decide +kernel
theorem dX11_bite_74 : decode cX11_bite 74 = .ok (.aload_n 0, 1) := by decide +kernel
theorem dX11_bite_75 : decode cX11_bite 75 = .ok (.iload_n 1, 1) := by decide +kernel
theorem dX11_bite_76 : decode cX11_bite 76 = .ok (.iload_n 2, 1) := by decide +kernel
theorem dX11_bite_77 : decode cX11_bite 77 = .ok (.iload_n 3, 1) := by decide +kernel
theorem dX11_bite_78 : decode cX11_bite 78 = .ok (.invokevirtual 210, 3) := by decide +kernel
theorem dX11_bite_81 : decode cX11_bite 81 = .ok (.pop, 1) := by decide +kernel
theorem dX11_bite_82 : decode cX11_bite 82 = .ok (.iload 5, 2) := by decide +kernel
theorem dX11_bite_84 : decode cX11_bite 84 = .ok (.ireturn, 1) := by decide +kernel
theorem dX11_bestOf_0 : decode cX11_bestOf 0 = .ok (.iconst (-1), 1) := by decide +kernel
theorem dX11_bestOf_1 : decode cX11_bestOf 1 = .ok (.istore_n 2, 1) := by decide +kernel
theorem dX11_bestOf_2 : decode cX11_bestOf 2 = .ok (.aload_n 0, 1) := by decide +kernel
theorem dX11_bestOf_3 : decode cX11_bestOf 3 = .ok (.iconst 0, 1) := by decide +kernel
theorem dX11_bestOf_4 : decode cX11_bestOf 4 = .ok (.putfield 213, 3) := by decide +kernel
theorem dX11_bestOf_7 : decode cX11_bestOf 7 = .ok (.iconst 0, 1) := by decide +kernel
theorem dX11_bestOf_8 : decode cX11_bestOf 8 = .ok (.istore_n 3, 1) := by decide +kernel
theorem dX11_bestOf_9 : decode cX11_bestOf 9 = .ok (.iload_n 3, 1) := by decide +kernel
theorem dX11_bestOf_10 : decode cX11_bestOf 10 = .ok (.bipush 16, 2) := by decide +kernel
theorem dX11_bestOf_12 : decode cX11_bestOf 12 = .ok (.aload_n 0, 1) := by decide +kernel
theorem dX11_bestOf_13 : decode cX11_bestOf 13 = .ok (.getfield 88, 3) := by decide +kernel
theorem dX11_bestOf_16 : decode cX11_bestOf 16 = .ok (.imul, 1) := by decide +kernel
theorem dX11_bestOf_17 : decode cX11_bestOf 17 = .ok (.if_icmp .ge 160, 3) := by decide +kernel
theorem dX11_bestOf_20 : decode cX11_bestOf 20 = .ok (.iload_n 3, 1) := by decide +kernel
theorem dX11_bestOf_21 : decode cX11_bestOf 21 = .ok (.bipush 16, 2) := by decide +kernel
theorem dX11_bestOf_23 : decode cX11_bestOf 23 = .ok (.idiv, 1) := by decide +kernel
theorem dX11_bestOf_24 : decode cX11_bestOf 24 = .ok (.istore 4, 2) := by decide +kernel
theorem dX11_bestOf_26 : decode cX11_bestOf 26 = .ok (.iload_n 3, 1) := by decide +kernel
theorem dX11_bestOf_27 : decode cX11_bestOf 27 = .ok (.bipush 16, 2) := by decide +kernel
theorem dX11_bestOf_29 : decode cX11_bestOf 29 = .ok (.irem, 1) := by decide +kernel
theorem dX11_bestOf_30 : decode cX11_bestOf 30 = .ok (.istore 5, 2) := by decide +kernel
theorem dX11_bestOf_32 : decode cX11_bestOf 32 = .ok (.aload_n 0, 1) := by decide +kernel
theorem dX11_bestOf_33 : decode cX11_bestOf 33 = .ok (.iload_n 1, 1) := by decide +kernel
theorem dX11_bestOf_34 : decode cX11_bestOf 34 = .ok (.iload 4, 2) := by decide +kernel
theorem dX11_bestOf_36 : decode cX11_bestOf 36 = .ok (.iload 5, 2) := by decide +kernel
theorem dX11_bestOf_38 : decode cX11_bestOf 38 = .ok (.invokevirtual 216, 3) := by decide +kernel
theorem dX11_bestOf_41 : decode cX11_bestOf 41 = .ok (.ifCond .eq 130, 3) := by decide +kernel
theorem dX11_bestOf_44 : decode cX11_bestOf 44 = .ok (.aload_n 0, 1) := by decide +kernel
theorem dX11_bestOf_45 : decode cX11_bestOf 45 = .ok (.iload_n 1, 1) := by decide +kernel
theorem dX11_bestOf_46 : decode cX11_bestOf 46 = .ok (.iload 4, 2) := by decide +kernel
theorem dX11_bestOf_48 : decode cX11_bestOf 48 = .ok (.iload 5, 2) := by decide +kernel
theorem dX11_bestOf_50 : decode cX11_bestOf 50 = .ok (.invokevirtual 198, 3) := by decide +kernel
theorem dX11_bestOf_53 : decode cX11_bestOf 53 = .ok (.istore 6, 2) := by decide +kernel
theorem dX11_bestOf_55 : decode cX11_bestOf 55 = .ok (.aload_n 0, 1) := by decide +kernel
theorem dX11_bestOf_56 : decode cX11_bestOf 56 = .ok (.iload_n 1, 1) := by decide +kernel
theorem dX11_bestOf_57 : decode cX11_bestOf 57 = .ok (.iload 4, 2) := by decide +kernel
theorem dX11_bestOf_59 : decode cX11_bestOf 59 = .ok (.iload 6, 2) := by decide +kernel
theorem dX11_bestOf_61 : decode cX11_bestOf 61 = .ok (.invokevirtual 207, 3) := by decide +kernel
theorem dX11_bestOf_64 : decode cX11_bestOf 64 = .ok (.aload_n 0, 1) := by decide +kernel
theorem dX11_bestOf_65 : decode cX11_bestOf 65 = .ok (.iload_n 1, 1) := by decide +kernel
theorem dX11_bestOf_66 : decode cX11_bestOf 66 = .ok (.iload 4, 2) := by decide +kernel
theorem dX11_bestOf_68 : decode cX11_bestOf 68 = .ok (.iload 6, 2) := by decide +kernel
theorem dX11_bestOf_70 : decode cX11_bestOf 70 = .ok (.invokevirtual 201, 3) := by decide +kernel
theorem dX11_bestOf_73 : decode cX11_bestOf 73 = .ok (.isub, 1) := by decide +kernel
theorem dX11_bestOf_74 : decode cX11_bestOf 74 = .ok (.istore 7, 2) := by decide +kernel
theorem dX11_bestOf_76 : decode cX11_bestOf 76 = .ok (.iload 7, 2) := by decide +kernel
theorem dX11_bestOf_78 : decode cX11_bestOf 78 = .ok (.aload_n 0, 1) := by decide +kernel
theorem dX11_bestOf_79 : decode cX11_bestOf 79 = .ok (.iconst 2, 1) := by decide +kernel
theorem dX11_bestOf_80 : decode cX11_bestOf 80 = .ok (.iload_n 1, 1) := by decide +kernel
theorem dX11_bestOf_81 : decode cX11_bestOf 81 = .ok (.iload 4, 2) := by decide +kernel
theorem dX11_bestOf_83 : decode cX11_bestOf 83 = .ok (.iload 6, 2) := by decide +kernel
theorem dX11_bestOf_85 : decode cX11_bestOf 85 = .ok (.invokestatic 170, 3) := by decide +kernel
theorem dX11_bestOf_88 : decode cX11_bestOf 88 = .ok (.aload_n 0, 1) := by decide +kernel
theorem dX11_bestOf_89 : decode cX11_bestOf 89 = .ok (.iload 4, 2) := by decide +kernel
theorem dX11_bestOf_91 : decode cX11_bestOf 91 = .ok (.iload 6, 2) := by decide +kernel
theorem dX11_bestOf_93 : decode cX11_bestOf 93 = .ok (.invokevirtual 195, 3) := by decide +kernel
theorem dX11_bestOf_96 : decode cX11_bestOf 96 = .ok (.invokevirtual 185, 3) := by decide +kernel
theorem dX11_bestOf_99 : decode cX11_bestOf 99 = .ok (.if_icmp .lt 7, 3) := by decide +kernel
theorem dX11_bestOf_102 : decode cX11_bestOf 102 = .ok (.iconst 1, 1) := by decide +kernel
theorem dX11_bestOf_103 : decode cX11_bestOf 103 = .ok (.goto 4, 3) := by decide +kernel
theorem dX11_bestOf_106 : decode cX11_bestOf 106 = .ok (.iconst 0, 1) := by decide +kernel
theorem dX11_bestOf_107 : decode cX11_bestOf 107 = .ok (.istore 8, 2) := by decide +kernel
theorem dX11_bestOf_109 : decode cX11_bestOf 109 = .ok (.iload 8, 2) := by decide +kernel
theorem dX11_bestOf_111 : decode cX11_bestOf 111 = .ok (.ifCond .eq 21, 3) := by decide +kernel
theorem dX11_bestOf_114 : decode cX11_bestOf 114 = .ok (.iload_n 2, 1) := by decide +kernel
theorem dX11_bestOf_115 : decode cX11_bestOf 115 = .ok (.iconst (-1), 1) := by decide +kernel
theorem dX11_bestOf_116 : decode cX11_bestOf 116 = .ok (.if_icmp .eq 12, 3) := by decide +kernel
theorem dX11_bestOf_119 : decode cX11_bestOf 119 = .ok (.iload 7, 2) := by decide +kernel
theorem dX11_bestOf_121 : decode cX11_bestOf 121 = .ok (.aload_n 0, 1) := by decide +kernel
theorem dX11_bestOf_122 : decode cX11_bestOf 122 = .ok (.getfield 213, 3) := by decide +kernel
theorem dX11_bestOf_125 : decode cX11_bestOf 125 = .ok (.if_icmp .le 7, 3) := by decide +kernel
theorem dX11_bestOf_128 : decode cX11_bestOf 128 = .ok (.iconst 1, 1) := by decide +kernel
theorem dX11_bestOf_129 : decode cX11_bestOf 129 = .ok (.goto 4, 3) := by decide +kernel
theorem dX11_bestOf_132 : decode cX11_bestOf 132 = .ok (.iconst 0, 1) := by decide +kernel
theorem dX11_bestOf_133 : decode cX11_bestOf 133 = .ok (.istore 9, 2) := by decide +kernel
theorem dX11_bestOf_135 : decode cX11_bestOf 135 = .ok (.iload 9, 2) := by decide +kernel
theorem dX11_bestOf_137 : decode cX11_bestOf 137 = .ok (.ifCond .eq 14, 3) := by decide +kernel
theorem dX11_bestOf_140 : decode cX11_bestOf 140 = .ok (.bipush 100, 2) := by decide +kernel
theorem dX11_bestOf_142 : decode cX11_bestOf 142 = .ok (.iload 4, 2) := by decide +kernel
theorem dX11_bestOf_144 : decode cX11_bestOf 144 = .ok (.imul, 1) := by decide +kernel
theorem dX11_bestOf_145 : decode cX11_bestOf 145 = .ok (.iload 5, 2) := by decide +kernel
theorem dX11_bestOf_147 : decode cX11_bestOf 147 = .ok (.iadd, 1) := by decide +kernel
theorem dX11_bestOf_148 : decode cX11_bestOf 148 = .ok (.goto 4, 3) := by decide +kernel
theorem dX11_bestOf_151 : decode cX11_bestOf 151 = .ok (.iload_n 2, 1) := by decide +kernel
theorem dX11_bestOf_152 : decode cX11_bestOf 152 = .ok (.istore_n 2, 1) := by decide +kernel
theorem dX11_bestOf_153 : decode cX11_bestOf 153 = .ok (.aload_n 0, 1) := by decide +kernel
theorem dX11_bestOf_154 : decode cX11_bestOf 154 = .ok (.iload 9, 2) := by decide +kernel
theorem dX11_bestOf_156 : decode cX11_bestOf 156 = .ok (.ifCond .eq 8, 3) := by decide +kernel
theorem dX11_bestOf_159 : decode cX11_bestOf 159 = .ok (.iload 7, 2) := by decide +kernel
theorem dX11_bestOf_161 : decode cX11_bestOf 161 = .ok (.goto 7, 3) := by decide +kernel
theorem dX11_bestOf_164 : decode cX11_bestOf 164 = .ok (.aload_n 0, 1) := by decide +kernel
theorem dX11_bestOf_165 : decode cX11_bestOf 165 = .ok (.getfield 213, 3) := by decide +kernel
theorem dX11_bestOf_168 : decode cX11_bestOf 168 = .ok (.putfield 213, 3) := by decide +kernel
theorem dX11_bestOf_171 : decode cX11_bestOf 171 = .ok (.iinc 3 1, 3) := by decide +kernel
theorem dX11_bestOf_174 : decode cX11_bestOf 174 = .ok (.goto (-165), 3) := by decide +kernel
theorem dX11_bestOf_177 : decode cX11_bestOf 177 = .ok (.iload_n 2, 1) := by decide +kernel
theorem dX11_bestOf_178 : decode cX11_bestOf 178 = .ok (.ireturn, 1) := by decide +kernel
theorem dX11_best_0 : decode cX11_best 0 = .ok (.aload_n 0, 1) := by decide +kernel
theorem dX11_best_1 : decode cX11_best 1 = .ok (.iload_n 1, 1) := by decide +kernel
theorem dX11_best_2 : decode cX11_best 2 = .ok (.invokevirtual 179, 3) := by decide +kernel
theorem dX11_best_5 : decode cX11_best 5 = .ok (.ifCond .ne 6, 3) := by decide +kernel
theorem dX11_best_8 : decode cX11_best 8 = .ok (.bipush (-5), 2) := by decide +kernel
theorem dX11_best_10 : decode cX11_best 10 = .ok (.ireturn, 1) := by decide +kernel
theorem dX11_best_11 : decode cX11_best 11 = .ok (.iload_n 2, 1) := by decide +kernel
theorem dX11_best_12 : decode cX11_best 12 = .ok (.iconst 0, 1) := by decide +kernel
theorem dX11_best_13 : decode cX11_best 13 = .ok (.iconst 1, 1) := by decide +kernel
theorem dX11_best_14 : decode cX11_best 14 = .ok (.invokestatic 84, 3) := by decide +kernel
theorem dX11_best_17 : decode cX11_best 17 = .ok (.ifCond .ne 6, 3) := by decide +kernel
theorem dX11_best_20 : decode cX11_best 20 = .ok (.bipush (-7), 2) := by decide +kernel
theorem dX11_best_22 : decode cX11_best 22 = .ok (.ireturn, 1) := by decide +kernel
theorem dX11_best_23 : decode cX11_best 23 = .ok (.aload_n 0, 1) := by decide +kernel
theorem dX11_best_24 : decode cX11_best 24 = .ok (.iload_n 1, 1) := by decide +kernel
theorem dX11_best_25 : decode cX11_best 25 = .ok (.invokevirtual 219, 3) := by decide +kernel
theorem dX11_best_28 : decode cX11_best 28 = .ok (.istore_n 3, 1) := by decide +kernel
theorem dX11_best_29 : decode cX11_best 29 = .ok (.iload_n 2, 1) := by decide +kernel
theorem dX11_best_30 : decode cX11_best 30 = .ok (.ifCond .ne 7, 3) := by decide +kernel
theorem dX11_best_33 : decode cX11_best 33 = .ok (.iload_n 3, 1) := by decide +kernel
theorem dX11_best_34 : decode cX11_best 34 = .ok (.goto 7, 3) := by decide +kernel
theorem dX11_best_37 : decode cX11_best 37 = .ok (.aload_n 0, 1) := by decide +kernel
theorem dX11_best_38 : decode cX11_best 38 = .ok (.getfield 213, 3) := by decide +kernel
theorem dX11_best_41 : decode cX11_best 41 = .ok (.ireturn, 1) := by decide +kernel
theorem dX11_keeps_0 : decode cX11_keeps 0 = .ok (.iconst 0, 1) := by decide +kernel
theorem dX11_keeps_1 : decode cX11_keeps 1 = .ok (.istore_n 1, 1) := by decide +kernel
theorem dX11_keeps_2 : decode cX11_keeps 2 = .ok (.iload_n 1, 1) := by decide +kernel
theorem dX11_keeps_3 : decode cX11_keeps 3 = .ok (.bipush 15, 2) := by decide +kernel
theorem dX11_keeps_5 : decode cX11_keeps 5 = .ok (.if_icmp .ge 21, 3) := by decide +kernel
theorem dX11_keeps_8 : decode cX11_keeps 8 = .ok (.aload_n 0, 1) := by decide +kernel
theorem dX11_keeps_9 : decode cX11_keeps 9 = .ok (.getfield 64, 3) := by decide +kernel
theorem dX11_keeps_12 : decode cX11_keeps 12 = .ok (.iload_n 1, 1) := by decide +kernel
theorem dX11_keeps_13 : decode cX11_keeps 13 = .ok (.aload_n 0, 1) := by decide +kernel
theorem dX11_keeps_14 : decode cX11_keeps 14 = .ok (.getfield 19, 3) := by decide +kernel
theorem dX11_keeps_17 : decode cX11_keeps 17 = .ok (.iload_n 1, 1) := by decide +kernel
theorem dX11_keeps_18 : decode cX11_keeps 18 = .ok (.iaload, 1) := by decide +kernel
theorem dX11_keeps_19 : decode cX11_keeps 19 = .ok (.iastore, 1) := by decide +kernel
theorem dX11_keeps_20 : decode cX11_keeps 20 = .ok (.iinc 1 1, 3) := by decide +kernel
theorem dX11_keeps_23 : decode cX11_keeps 23 = .ok (.goto (-21), 3) := by decide +kernel
theorem dX11_keeps_26 : decode cX11_keeps 26 = .ok (.iconst 0, 1) := by decide +kernel
theorem dX11_keeps_27 : decode cX11_keeps 27 = .ok (.istore_n 1, 1) := by decide +kernel
theorem dX11_keeps_28 : decode cX11_keeps 28 = .ok (.iload_n 1, 1) := by decide +kernel
theorem dX11_keeps_29 : decode cX11_keeps 29 = .ok (.bipush 6, 2) := by decide +kernel
theorem dX11_keeps_31 : decode cX11_keeps 31 = .ok (.if_icmp .ge 30, 3) := by decide +kernel
theorem dX11_keeps_34 : decode cX11_keeps 34 = .ok (.aload_n 0, 1) := by decide +kernel
theorem dX11_keeps_35 : decode cX11_keeps 35 = .ok (.getfield 64, 3) := by decide +kernel
theorem dX11_keeps_38 : decode cX11_keeps 38 = .ok (.bipush 15, 2) := by decide +kernel
theorem dX11_keeps_40 : decode cX11_keeps 40 = .ok (.iload_n 1, 1) := by decide +kernel
theorem dX11_keeps_41 : decode cX11_keeps 41 = .ok (.iadd, 1) := by decide +kernel
theorem dX11_keeps_42 : decode cX11_keeps 42 = .ok (.aload_n 0, 1) := by decide +kernel
theorem dX11_keeps_43 : decode cX11_keeps 43 = .ok (.getfield 7, 3) := by decide +kernel
theorem dX11_keeps_46 : decode cX11_keeps 46 = .ok (.bipush 12, 2) := by decide +kernel
theorem dX11_keeps_48 : decode cX11_keeps 48 = .ok (.iload_n 1, 1) := by decide +kernel
theorem dX11_keeps_49 : decode cX11_keeps 49 = .ok (.imul, 1) := by decide +kernel
theorem dX11_keeps_50 : decode cX11_keeps 50 = .ok (.bipush 11, 2) := by decide +kernel
theorem dX11_keeps_52 : decode cX11_keeps 52 = .ok (.iadd, 1) := by decide +kernel
theorem dX11_keeps_53 : decode cX11_keeps 53 = .ok (.iaload, 1) := by decide +kernel
theorem dX11_keeps_54 : decode cX11_keeps 54 = .ok (.iastore, 1) := by decide +kernel
theorem dX11_keeps_55 : decode cX11_keeps 55 = .ok (.iinc 1 1, 3) := by decide +kernel
theorem dX11_keeps_58 : decode cX11_keeps 58 = .ok (.goto (-30), 3) := by decide +kernel
theorem dX11_keeps_61 : decode cX11_keeps 61 = .ok (.return_, 1) := by decide +kernel
theorem dX11_laysBack_0 : decode cX11_laysBack 0 = .ok (.iconst 0, 1) := by decide +kernel
theorem dX11_laysBack_1 : decode cX11_laysBack 1 = .ok (.istore_n 1, 1) := by decide +kernel
theorem dX11_laysBack_2 : decode cX11_laysBack 2 = .ok (.iload_n 1, 1) := by decide +kernel
theorem dX11_laysBack_3 : decode cX11_laysBack 3 = .ok (.bipush 15, 2) := by decide +kernel
theorem dX11_laysBack_5 : decode cX11_laysBack 5 = .ok (.if_icmp .ge 21, 3) := by decide +kernel
theorem dX11_laysBack_8 : decode cX11_laysBack 8 = .ok (.aload_n 0, 1) := by decide +kernel
theorem dX11_laysBack_9 : decode cX11_laysBack 9 = .ok (.getfield 19, 3) := by decide +kernel
theorem dX11_laysBack_12 : decode cX11_laysBack 12 = .ok (.iload_n 1, 1) := by decide +kernel
theorem dX11_laysBack_13 : decode cX11_laysBack 13 = .ok (.aload_n 0, 1) := by decide +kernel
theorem dX11_laysBack_14 : decode cX11_laysBack 14 = .ok (.getfield 64, 3) := by decide +kernel
theorem dX11_laysBack_17 : decode cX11_laysBack 17 = .ok (.iload_n 1, 1) := by decide +kernel
theorem dX11_laysBack_18 : decode cX11_laysBack 18 = .ok (.iaload, 1) := by decide +kernel
theorem dX11_laysBack_19 : decode cX11_laysBack 19 = .ok (.iastore, 1) := by decide +kernel
theorem dX11_laysBack_20 : decode cX11_laysBack 20 = .ok (.iinc 1 1, 3) := by decide +kernel
theorem dX11_laysBack_23 : decode cX11_laysBack 23 = .ok (.goto (-21), 3) := by decide +kernel
theorem dX11_laysBack_26 : decode cX11_laysBack 26 = .ok (.iconst 0, 1) := by decide +kernel
theorem dX11_laysBack_27 : decode cX11_laysBack 27 = .ok (.istore_n 1, 1) := by decide +kernel
theorem dX11_laysBack_28 : decode cX11_laysBack 28 = .ok (.iload_n 1, 1) := by decide +kernel
theorem dX11_laysBack_29 : decode cX11_laysBack 29 = .ok (.bipush 6, 2) := by decide +kernel
theorem dX11_laysBack_31 : decode cX11_laysBack 31 = .ok (.if_icmp .ge 30, 3) := by decide +kernel
theorem dX11_laysBack_34 : decode cX11_laysBack 34 = .ok (.aload_n 0, 1) := by decide +kernel
theorem dX11_laysBack_35 : decode cX11_laysBack 35 = .ok (.getfield 7, 3) := by decide +kernel
theorem dX11_laysBack_38 : decode cX11_laysBack 38 = .ok (.bipush 12, 2) := by decide +kernel
theorem dX11_laysBack_40 : decode cX11_laysBack 40 = .ok (.iload_n 1, 1) := by decide +kernel
theorem dX11_laysBack_41 : decode cX11_laysBack 41 = .ok (.imul, 1) := by decide +kernel
theorem dX11_laysBack_42 : decode cX11_laysBack 42 = .ok (.bipush 11, 2) := by decide +kernel
theorem dX11_laysBack_44 : decode cX11_laysBack 44 = .ok (.iadd, 1) := by decide +kernel
theorem dX11_laysBack_45 : decode cX11_laysBack 45 = .ok (.aload_n 0, 1) := by decide +kernel
theorem dX11_laysBack_46 : decode cX11_laysBack 46 = .ok (.getfield 64, 3) := by decide +kernel
theorem dX11_laysBack_49 : decode cX11_laysBack 49 = .ok (.bipush 15, 2) := by decide +kernel
theorem dX11_laysBack_51 : decode cX11_laysBack 51 = .ok (.iload_n 1, 1) := by decide +kernel
theorem dX11_laysBack_52 : decode cX11_laysBack 52 = .ok (.iadd, 1) := by decide +kernel
theorem dX11_laysBack_53 : decode cX11_laysBack 53 = .ok (.iaload, 1) := by decide +kernel
theorem dX11_laysBack_54 : decode cX11_laysBack 54 = .ok (.iastore, 1) := by decide +kernel
theorem dX11_laysBack_55 : decode cX11_laysBack 55 = .ok (.iinc 1 1, 3) := by decide +kernel
theorem dX11_laysBack_58 : decode cX11_laysBack 58 = .ok (.goto (-30), 3) := by decide +kernel
theorem dX11_laysBack_61 : decode cX11_laysBack 61 = .ok (.return_, 1) := by decide +kernel
theorem dX11_tells_0 : decode cX11_tells 0 = .ok (.iload_n 1, 1) := by decide +kernel
theorem dX11_tells_1 : decode cX11_tells 1 = .ok (.istore_n 2, 1) := by decide +kernel
theorem dX11_tells_2 : decode cX11_tells 2 = .ok (.iconst 0, 1) := by decide +kernel
theorem dX11_tells_3 : decode cX11_tells 3 = .ok (.istore_n 3, 1) := by decide +kernel
theorem dX11_tells_4 : decode cX11_tells 4 = .ok (.aload_n 0, 1) := by decide +kernel
theorem dX11_tells_5 : decode cX11_tells 5 = .ok (.getfield 81, 3) := by decide +kernel
theorem dX11_tells_8 : decode cX11_tells 8 = .ok (.iconst 1, 1) := by decide +kernel
theorem dX11_tells_9 : decode cX11_tells 9 = .ok (.isub, 1) := by decide +kernel
theorem dX11_tells_10 : decode cX11_tells 10 = .ok (.istore 4, 2) := by decide +kernel
theorem dX11_tells_12 : decode cX11_tells 12 = .ok (.iload 4, 2) := by decide +kernel
theorem dX11_tells_14 : decode cX11_tells 14 = .ok (.ifCond .lt 41, 3) := by decide +kernel
theorem dX11_tells_17 : decode cX11_tells 17 = .ok (.aload_n 0, 1) := by decide +kernel
theorem dX11_tells_18 : decode cX11_tells 18 = .ok (.getfield 67, 3) := by decide +kernel
theorem dX11_tells_21 : decode cX11_tells 21 = .ok (.iload 4, 2) := by decide +kernel
theorem dX11_tells_23 : decode cX11_tells 23 = .ok (.iload_n 2, 1) := by decide +kernel
theorem dX11_tells_24 : decode cX11_tells 24 = .ok (.aload_n 0, 1) := by decide +kernel
theorem dX11_tells_25 : decode cX11_tells 25 = .ok (.getfield 81, 3) := by decide +kernel
theorem dX11_tells_28 : decode cX11_tells 28 = .ok (.irem, 1) := by decide +kernel
theorem dX11_tells_29 : decode cX11_tells 29 = .ok (.iastore, 1) := by decide +kernel
theorem dX11_tells_30 : decode cX11_tells 30 = .ok (.iload_n 2, 1) := by decide +kernel
theorem dX11_tells_31 : decode cX11_tells 31 = .ok (.aload_n 0, 1) := by decide +kernel
theorem dX11_tells_32 : decode cX11_tells 32 = .ok (.getfield 81, 3) := by decide +kernel
theorem dX11_tells_35 : decode cX11_tells 35 = .ok (.idiv, 1) := by decide +kernel
theorem dX11_tells_36 : decode cX11_tells 36 = .ok (.istore_n 2, 1) := by decide +kernel
theorem dX11_tells_37 : decode cX11_tells 37 = .ok (.iload_n 3, 1) := by decide +kernel
theorem dX11_tells_38 : decode cX11_tells 38 = .ok (.iconst 1, 1) := by decide +kernel
theorem dX11_tells_39 : decode cX11_tells 39 = .ok (.aload_n 0, 1) := by decide +kernel
theorem dX11_tells_40 : decode cX11_tells 40 = .ok (.getfield 67, 3) := by decide +kernel
theorem dX11_tells_43 : decode cX11_tells 43 = .ok (.iload 4, 2) := by decide +kernel
theorem dX11_tells_45 : decode cX11_tells 45 = .ok (.iaload, 1) := by decide +kernel
theorem dX11_tells_46 : decode cX11_tells 46 = .ok (.ishl, 1) := by decide +kernel
theorem dX11_tells_47 : decode cX11_tells 47 = .ok (.ior, 1) := by decide +kernel
theorem dX11_tells_48 : decode cX11_tells 48 = .ok (.istore_n 3, 1) := by decide +kernel
theorem dX11_tells_49 : decode cX11_tells 49 = .ok (.iinc 4 (-1), 3) := by decide +kernel
theorem dX11_tells_52 : decode cX11_tells 52 = .ok (.goto (-40), 3) := by decide +kernel
theorem dX11_tells_55 : decode cX11_tells 55 = .ok (.iload_n 3, 1) := by decide +kernel
theorem dX11_tells_56 : decode cX11_tells 56 = .ok (.iconst 1, 1) := by decide +kernel
theorem dX11_tells_57 : decode cX11_tells 57 = .ok (.aload_n 0, 1) := by decide +kernel
theorem dX11_tells_58 : decode cX11_tells 58 = .ok (.getfield 81, 3) := by decide +kernel
theorem dX11_tells_61 : decode cX11_tells 61 = .ok (.ishl, 1) := by decide +kernel
theorem dX11_tells_62 : decode cX11_tells 62 = .ok (.iconst 1, 1) := by decide +kernel
theorem dX11_tells_63 : decode cX11_tells 63 = .ok (.isub, 1) := by decide +kernel
theorem dX11_tells_64 : decode cX11_tells 64 = .ok (.if_icmp .ne 7, 3) := by decide +kernel
theorem dX11_tells_67 : decode cX11_tells 67 = .ok (.iconst 1, 1) := by decide +kernel
theorem dX11_tells_68 : decode cX11_tells 68 = .ok (.goto 4, 3) := by decide +kernel
theorem dX11_tells_71 : decode cX11_tells 71 = .ok (.iconst 0, 1) := by decide +kernel
theorem dX11_tells_72 : decode cX11_tells 72 = .ok (.ireturn, 1) := by decide +kernel
theorem dX11_gainsByOrder_0 : decode cX11_gainsByOrder 0 = .ok (.iconst 0, 1) := by decide +kernel
theorem dX11_gainsByOrder_1 : decode cX11_gainsByOrder 1 = .ok (.istore_n 1, 1) := by decide +kernel
theorem dX11_gainsByOrder_2 : decode cX11_gainsByOrder 2 = .ok (.aload_n 0, 1) := by decide +kernel
theorem dX11_gainsByOrder_3 : decode cX11_gainsByOrder 3 = .ok (.invokevirtual 222, 3) := by decide +kernel
theorem dX11_gainsByOrder_6 : decode cX11_gainsByOrder 6 = .ok (.iconst 0, 1) := by decide +kernel
theorem dX11_gainsByOrder_7 : decode cX11_gainsByOrder 7 = .ok (.istore_n 2, 1) := by decide +kernel
theorem dX11_gainsByOrder_8 : decode cX11_gainsByOrder 8 = .ok (.iload_n 2, 1) := by decide +kernel
theorem dX11_gainsByOrder_9 : decode cX11_gainsByOrder 9 = .ok (.aload_n 0, 1) := by decide +kernel
theorem dX11_gainsByOrder_10 : decode cX11_gainsByOrder 10 = .ok (.getfield 81, 3) := by decide +kernel
theorem dX11_gainsByOrder_13 : decode cX11_gainsByOrder 13 = .ok (.if_icmp .ge 46, 3) := by decide +kernel
theorem dX11_gainsByOrder_16 : decode cX11_gainsByOrder 16 = .ok (.aload_n 0, 1) := by decide +kernel
theorem dX11_gainsByOrder_17 : decode cX11_gainsByOrder 17 = .ok (.aload_n 0, 1) := by decide +kernel
theorem dX11_gainsByOrder_18 : decode cX11_gainsByOrder 18 = .ok (.getfield 67, 3) := by decide +kernel
theorem dX11_gainsByOrder_21 : decode cX11_gainsByOrder 21 = .ok (.iload_n 2, 1) := by decide +kernel
theorem dX11_gainsByOrder_22 : decode cX11_gainsByOrder 22 = .ok (.iaload, 1) := by decide +kernel
theorem dX11_gainsByOrder_23 : decode cX11_gainsByOrder 23 = .ok (.invokevirtual 219, 3) := by decide +kernel
theorem dX11_gainsByOrder_26 : decode cX11_gainsByOrder 26 = .ok (.istore_n 3, 1) := by decide +kernel
theorem dX11_gainsByOrder_27 : decode cX11_gainsByOrder 27 = .ok (.iload_n 3, 1) := by decide +kernel
theorem dX11_gainsByOrder_28 : decode cX11_gainsByOrder 28 = .ok (.iconst (-1), 1) := by decide +kernel
theorem dX11_gainsByOrder_29 : decode cX11_gainsByOrder 29 = .ok (.if_icmp .eq 24, 3) := by decide +kernel
theorem dX11_gainsByOrder_32 : decode cX11_gainsByOrder 32 = .ok (.iload_n 1, 1) := by decide +kernel
theorem dX11_gainsByOrder_33 : decode cX11_gainsByOrder 33 = .ok (.aload_n 0, 1) := by decide +kernel
theorem dX11_gainsByOrder_34 : decode cX11_gainsByOrder 34 = .ok (.aload_n 0, 1) := by decide +kernel
theorem dX11_gainsByOrder_35 : decode cX11_gainsByOrder 35 = .ok (.getfield 67, 3) := by decide +kernel
theorem dX11_gainsByOrder_38 : decode cX11_gainsByOrder 38 = .ok (.iload_n 2, 1) := by decide +kernel
theorem dX11_gainsByOrder_39 : decode cX11_gainsByOrder 39 = .ok (.iaload, 1) := by decide +kernel
theorem dX11_gainsByOrder_40 : decode cX11_gainsByOrder 40 = .ok (.iload_n 3, 1) := by decide +kernel
theorem dX11_gainsByOrder_41 : decode cX11_gainsByOrder 41 = .ok (.bipush 100, 2) := by decide +kernel
theorem dX11_gainsByOrder_43 : decode cX11_gainsByOrder 43 = .ok (.idiv, 1) := by decide +kernel
theorem dX11_gainsByOrder_44 : decode cX11_gainsByOrder 44 = .ok (.iload_n 3, 1) := by decide +kernel
theorem dX11_gainsByOrder_45 : decode cX11_gainsByOrder 45 = .ok (.bipush 100, 2) := by decide +kernel
theorem dX11_gainsByOrder_47 : decode cX11_gainsByOrder 47 = .ok (.irem, 1) := by decide +kernel
theorem dX11_gainsByOrder_48 : decode cX11_gainsByOrder 48 = .ok (.invokevirtual 210, 3) := by decide +kernel
theorem dX11_gainsByOrder_51 : decode cX11_gainsByOrder 51 = .ok (.iadd, 1) := by decide +kernel
theorem dX11_gainsByOrder_52 : decode cX11_gainsByOrder 52 = .ok (.istore_n 1, 1) := by decide +kernel
theorem dX11_gainsByOrder_53 : decode cX11_gainsByOrder 53 = .ok (.iinc 2 1, 3) := by decide +kernel
theorem dX11_gainsByOrder_56 : decode cX11_gainsByOrder 56 = .ok (.goto (-48), 3) := by decide +kernel
theorem dX11_gainsByOrder_59 : decode cX11_gainsByOrder 59 = .ok (.aload_n 0, 1) := by decide +kernel
theorem dX11_gainsByOrder_60 : decode cX11_gainsByOrder 60 = .ok (.invokevirtual 225, 3) := by decide +kernel
theorem dX11_gainsByOrder_63 : decode cX11_gainsByOrder 63 = .ok (.iload_n 1, 1) := by decide +kernel
theorem dX11_gainsByOrder_64 : decode cX11_gainsByOrder 64 = .ok (.ireturn, 1) := by decide +kernel
theorem dX11_orderly_0 : decode cX11_orderly 0 = .ok (.iload_n 1, 1) := by decide +kernel
theorem dX11_orderly_1 : decode cX11_orderly 1 = .ok (.iconst 0, 1) := by decide +kernel
theorem dX11_orderly_2 : decode cX11_orderly 2 = .ok (.iconst 1, 1) := by decide +kernel
theorem dX11_orderly_3 : decode cX11_orderly 3 = .ok (.invokestatic 84, 3) := by decide +kernel
theorem dX11_orderly_6 : decode cX11_orderly 6 = .ok (.ifCond .ne 6, 3) := by decide +kernel
theorem dX11_orderly_9 : decode cX11_orderly 9 = .ok (.bipush (-2), 2) := by decide +kernel
theorem dX11_orderly_11 : decode cX11_orderly 11 = .ok (.ireturn, 1) := by decide +kernel
theorem dX11_orderly_12 : decode cX11_orderly 12 = .ok (.iconst (-1), 1) := by decide +kernel
theorem dX11_orderly_13 : decode cX11_orderly 13 = .ok (.istore_n 2, 1) := by decide +kernel
theorem dX11_orderly_14 : decode cX11_orderly 14 = .ok (.iconst 0, 1) := by decide +kernel
theorem dX11_orderly_15 : decode cX11_orderly 15 = .ok (.istore_n 3, 1) := by decide +kernel
theorem dX11_orderly_16 : decode cX11_orderly 16 = .ok (.aload_n 0, 1) := by decide +kernel
theorem dX11_orderly_17 : decode cX11_orderly 17 = .ok (.getfield 81, 3) := by decide +kernel
theorem dX11_orderly_20 : decode cX11_orderly 20 = .ok (.ifCond .ne 7, 3) := by decide +kernel
theorem dX11_orderly_23 : decode cX11_orderly 23 = .ok (.iconst 0, 1) := by decide +kernel
theorem dX11_orderly_24 : decode cX11_orderly 24 = .ok (.goto 4, 3) := by decide +kernel
theorem dX11_orderly_27 : decode cX11_orderly 27 = .ok (.iconst 1, 1) := by decide +kernel
theorem dX11_orderly_28 : decode cX11_orderly 28 = .ok (.istore 4, 2) := by decide +kernel
theorem dX11_orderly_30 : decode cX11_orderly 30 = .ok (.iconst 0, 1) := by decide +kernel
theorem dX11_orderly_31 : decode cX11_orderly 31 = .ok (.istore 5, 2) := by decide +kernel
theorem dX11_orderly_33 : decode cX11_orderly 33 = .ok (.iload 5, 2) := by decide +kernel
theorem dX11_orderly_35 : decode cX11_orderly 35 = .ok (.aload_n 0, 1) := by decide +kernel
theorem dX11_orderly_36 : decode cX11_orderly 36 = .ok (.getfield 81, 3) := by decide +kernel
theorem dX11_orderly_39 : decode cX11_orderly 39 = .ok (.if_icmp .ge 18, 3) := by decide +kernel
theorem dX11_orderly_42 : decode cX11_orderly 42 = .ok (.iload 4, 2) := by decide +kernel
theorem dX11_orderly_44 : decode cX11_orderly 44 = .ok (.aload_n 0, 1) := by decide +kernel
theorem dX11_orderly_45 : decode cX11_orderly 45 = .ok (.getfield 81, 3) := by decide +kernel
theorem dX11_orderly_48 : decode cX11_orderly 48 = .ok (.imul, 1) := by decide +kernel
theorem dX11_orderly_49 : decode cX11_orderly 49 = .ok (.istore 4, 2) := by decide +kernel
theorem dX11_orderly_51 : decode cX11_orderly 51 = .ok (.iinc 5 1, 3) := by decide +kernel
theorem dX11_orderly_54 : decode cX11_orderly 54 = .ok (.goto (-21), 3) := by decide +kernel
theorem dX11_orderly_57 : decode cX11_orderly 57 = .ok (.iconst 0, 1) := by decide +kernel
theorem dX11_orderly_58 : decode cX11_orderly 58 = .ok (.istore 5, 2) := by decide +kernel
theorem dX11_orderly_60 : decode cX11_orderly 60 = .ok (.iload 5, 2) := by decide +kernel
theorem dX11_orderly_62 : decode cX11_orderly 62 = .ok (.iload 4, 2) := by decide +kernel
theorem dX11_orderly_64 : decode cX11_orderly 64 = .ok (.if_icmp .ge 104, 3) := by decide +kernel
theorem dX11_orderly_67 : decode cX11_orderly 67 = .ok (.aload_n 0, 1) := by decide +kernel
theorem dX11_orderly_68 : decode cX11_orderly 68 = .ok (.iload 5, 2) := by decide +kernel
theorem dX11_orderly_70 : decode cX11_orderly 70 = .ok (.invokevirtual 228, 3) := by decide +kernel
theorem dX11_orderly_73 : decode cX11_orderly 73 = .ok (.ifCond .eq 89, 3) := by decide +kernel
theorem dX11_orderly_76 : decode cX11_orderly 76 = .ok (.aload_n 0, 1) := by decide +kernel
theorem dX11_orderly_77 : decode cX11_orderly 77 = .ok (.invokevirtual 231, 3) := by decide +kernel
theorem dX11_orderly_80 : decode cX11_orderly 80 = .ok (.istore 6, 2) := by decide +kernel
theorem dX11_orderly_82 : decode cX11_orderly 82 = .ok (.iconst 0, 1) := by decide +kernel
theorem dX11_orderly_83 : decode cX11_orderly 83 = .ok (.istore 7, 2) := by decide +kernel
theorem dX11_orderly_85 : decode cX11_orderly 85 = .ok (.iconst 0, 1) := by decide +kernel
theorem dX11_orderly_86 : decode cX11_orderly 86 = .ok (.istore 8, 2) := by decide +kernel
theorem dX11_orderly_88 : decode cX11_orderly 88 = .ok (.iload 8, 2) := by decide +kernel
theorem dX11_orderly_90 : decode cX11_orderly 90 = .ok (.aload_n 0, 1) := by decide +kernel
theorem dX11_orderly_91 : decode cX11_orderly 91 = .ok (.getfield 81, 3) := by decide +kernel
theorem dX11_orderly_94 : decode cX11_orderly 94 = .ok (.if_icmp .ge 26, 3) := by decide +kernel
theorem dX11_orderly_97 : decode cX11_orderly 97 = .ok (.bipush 10, 2) := by decide +kernel
theorem dX11_orderly_99 : decode cX11_orderly 99 = .ok (.iload 7, 2) := by decide +kernel
theorem dX11_orderly_101 : decode cX11_orderly 101 = .ok (.imul, 1) := by decide +kernel
theorem dX11_orderly_102 : decode cX11_orderly 102 = .ok (.aload_n 0, 1) := by decide +kernel
theorem dX11_orderly_103 : decode cX11_orderly 103 = .ok (.getfield 67, 3) := by decide +kernel
theorem dX11_orderly_106 : decode cX11_orderly 106 = .ok (.iload 8, 2) := by decide +kernel
theorem dX11_orderly_108 : decode cX11_orderly 108 = .ok (.iaload, 1) := by decide +kernel
theorem dX11_orderly_109 : decode cX11_orderly 109 = .ok (.iadd, 1) := by decide +kernel
theorem dX11_orderly_110 : decode cX11_orderly 110 = .ok (.iconst 1, 1) := by decide +kernel
theorem dX11_orderly_111 : decode cX11_orderly 111 = .ok (.iadd, 1) := by decide +kernel
theorem dX11_orderly_112 : decode cX11_orderly 112 = .ok (.istore 7, 2) := by decide +kernel
theorem dX11_orderly_114 : decode cX11_orderly 114 = .ok (.iinc 8 1, 3) := by decide +kernel
theorem dX11_orderly_117 : decode cX11_orderly 117 = .ok (.goto (-29), 3) := by decide +kernel
theorem dX11_orderly_120 : decode cX11_orderly 120 = .ok (.iload_n 2, 1) := by decide +kernel
theorem dX11_orderly_121 : decode cX11_orderly 121 = .ok (.iconst (-1), 1) := by decide +kernel
theorem dX11_orderly_122 : decode cX11_orderly 122 = .ok (.if_icmp .eq 9, 3) := by decide +kernel
theorem dX11_orderly_125 : decode cX11_orderly 125 = .ok (.iload 6, 2) := by decide +kernel
theorem dX11_orderly_127 : decode cX11_orderly 127 = .ok (.iload_n 3, 1) := by decide +kernel
theorem dX11_orderly_128 : decode cX11_orderly 128 = .ok (.if_icmp .le 7, 3) := by decide +kernel
theorem dX11_orderly_131 : decode cX11_orderly 131 = .ok (.iconst 1, 1) := by decide +kernel
theorem dX11_orderly_132 : decode cX11_orderly 132 = .ok (.goto 4, 3) := by decide +kernel
theorem dX11_orderly_135 : decode cX11_orderly 135 = .ok (.iconst 0, 1) := by decide +kernel
theorem dX11_orderly_136 : decode cX11_orderly 136 = .ok (.istore 8, 2) := by decide +kernel
theorem dX11_orderly_138 : decode cX11_orderly 138 = .ok (.iload 8, 2) := by decide +kernel
theorem dX11_orderly_140 : decode cX11_orderly 140 = .ok (.ifCond .eq 8, 3) := by decide +kernel
theorem dX11_orderly_143 : decode cX11_orderly 143 = .ok (.iload 7, 2) := by decide +kernel
theorem dX11_orderly_145 : decode cX11_orderly 145 = .ok (.goto 4, 3) := by decide +kernel
theorem dX11_orderly_148 : decode cX11_orderly 148 = .ok (.iload_n 2, 1) := by decide +kernel
theorem dX11_orderly_149 : decode cX11_orderly 149 = .ok (.istore_n 2, 1) := by decide +kernel
theorem dX11_orderly_150 : decode cX11_orderly 150 = .ok (.iload 8, 2) := by decide +kernel
theorem dX11_orderly_152 : decode cX11_orderly 152 = .ok (.ifCond .eq 8, 3) := by decide +kernel
theorem dX11_orderly_155 : decode cX11_orderly 155 = .ok (.iload 6, 2) := by decide +kernel
theorem dX11_orderly_157 : decode cX11_orderly 157 = .ok (.goto 4, 3) := by decide +kernel
theorem dX11_orderly_160 : decode cX11_orderly 160 = .ok (.iload_n 3, 1) := by decide +kernel
theorem dX11_orderly_161 : decode cX11_orderly 161 = .ok (.istore_n 3, 1) := by decide +kernel
theorem dX11_orderly_162 : decode cX11_orderly 162 = .ok (.iinc 5 1, 3) := by decide +kernel
theorem dX11_orderly_165 : decode cX11_orderly 165 = .ok (.goto (-105), 3) := by decide +kernel
theorem dX11_orderly_168 : decode cX11_orderly 168 = .ok (.iload_n 1, 1) := by decide +kernel
theorem dX11_orderly_169 : decode cX11_orderly 169 = .ok (.ifCond .ne 7, 3) := by decide +kernel
theorem dX11_orderly_172 : decode cX11_orderly 172 = .ok (.iload_n 2, 1) := by decide +kernel
theorem dX11_orderly_173 : decode cX11_orderly 173 = .ok (.goto 4, 3) := by decide +kernel
theorem dX11_orderly_176 : decode cX11_orderly 176 = .ok (.iload_n 3, 1) := by decide +kernel
theorem dX11_orderly_177 : decode cX11_orderly 177 = .ok (.ireturn, 1) := by decide +kernel
theorem dX11_duelOne_0 : decode cX11_duelOne 0 = .ok (.iconst 0, 1) := by decide +kernel
theorem dX11_duelOne_1 : decode cX11_duelOne 1 = .ok (.istore_n 2, 1) := by decide +kernel
theorem dX11_duelOne_2 : decode cX11_duelOne 2 = .ok (.iconst 0, 1) := by decide +kernel
theorem dX11_duelOne_3 : decode cX11_duelOne 3 = .ok (.istore_n 3, 1) := by decide +kernel
theorem dX11_duelOne_4 : decode cX11_duelOne 4 = .ok (.iconst 0, 1) := by decide +kernel
theorem dX11_duelOne_5 : decode cX11_duelOne 5 = .ok (.istore 4, 2) := by decide +kernel
theorem dX11_duelOne_7 : decode cX11_duelOne 7 = .ok (.iload 4, 2) := by decide +kernel
theorem dX11_duelOne_9 : decode cX11_duelOne 9 = .ok (.bipush 16, 2) := by decide +kernel
theorem dX11_duelOne_11 : decode cX11_duelOne 11 = .ok (.aload_n 0, 1) := by decide +kernel
theorem dX11_duelOne_12 : decode cX11_duelOne 12 = .ok (.getfield 88, 3) := by decide +kernel
theorem dX11_duelOne_15 : decode cX11_duelOne 15 = .ok (.imul, 1) := by decide +kernel
theorem dX11_duelOne_16 : decode cX11_duelOne 16 = .ok (.if_icmp .ge 90, 3) := by decide +kernel
theorem dX11_duelOne_19 : decode cX11_duelOne 19 = .ok (.aload_n 0, 1) := by decide +kernel
theorem dX11_duelOne_20 : decode cX11_duelOne 20 = .ok (.iload_n 1, 1) := by decide +kernel
theorem dX11_duelOne_21 : decode cX11_duelOne 21 = .ok (.iload 4, 2) := by decide +kernel
theorem dX11_duelOne_23 : decode cX11_duelOne 23 = .ok (.bipush 16, 2) := by decide +kernel
theorem dX11_duelOne_25 : decode cX11_duelOne 25 = .ok (.idiv, 1) := by decide +kernel
theorem dX11_duelOne_26 : decode cX11_duelOne 26 = .ok (.iload 4, 2) := by decide +kernel
theorem dX11_duelOne_28 : decode cX11_duelOne 28 = .ok (.bipush 16, 2) := by decide +kernel
theorem dX11_duelOne_30 : decode cX11_duelOne 30 = .ok (.irem, 1) := by decide +kernel
theorem dX11_duelOne_31 : decode cX11_duelOne 31 = .ok (.invokevirtual 216, 3) := by decide +kernel
theorem dX11_duelOne_34 : decode cX11_duelOne 34 = .ok (.ifCond .eq 66, 3) := by decide +kernel
theorem dX11_duelOne_37 : decode cX11_duelOne 37 = .ok (.aload_n 0, 1) := by decide +kernel
theorem dX11_duelOne_38 : decode cX11_duelOne 38 = .ok (.iload_n 1, 1) := by decide +kernel
theorem dX11_duelOne_39 : decode cX11_duelOne 39 = .ok (.iload 4, 2) := by decide +kernel
theorem dX11_duelOne_41 : decode cX11_duelOne 41 = .ok (.bipush 16, 2) := by decide +kernel
theorem dX11_duelOne_43 : decode cX11_duelOne 43 = .ok (.idiv, 1) := by decide +kernel
theorem dX11_duelOne_44 : decode cX11_duelOne 44 = .ok (.iload 4, 2) := by decide +kernel
theorem dX11_duelOne_46 : decode cX11_duelOne 46 = .ok (.bipush 16, 2) := by decide +kernel
theorem dX11_duelOne_48 : decode cX11_duelOne 48 = .ok (.irem, 1) := by decide +kernel
theorem dX11_duelOne_49 : decode cX11_duelOne 49 = .ok (.invokevirtual 198, 3) := by decide +kernel
theorem dX11_duelOne_52 : decode cX11_duelOne 52 = .ok (.istore 5, 2) := by decide +kernel
theorem dX11_duelOne_54 : decode cX11_duelOne 54 = .ok (.aload_n 0, 1) := by decide +kernel
theorem dX11_duelOne_55 : decode cX11_duelOne 55 = .ok (.iload_n 1, 1) := by decide +kernel
theorem dX11_duelOne_56 : decode cX11_duelOne 56 = .ok (.iload 4, 2) := by decide +kernel
theorem dX11_duelOne_58 : decode cX11_duelOne 58 = .ok (.bipush 16, 2) := by decide +kernel
theorem dX11_duelOne_60 : decode cX11_duelOne 60 = .ok (.idiv, 1) := by decide +kernel
theorem dX11_duelOne_61 : decode cX11_duelOne 61 = .ok (.iload 5, 2) := by decide +kernel
theorem dX11_duelOne_63 : decode cX11_duelOne 63 = .ok (.invokevirtual 207, 3) := by decide +kernel
theorem dX11_duelOne_66 : decode cX11_duelOne 66 = .ok (.aload_n 0, 1) := by decide +kernel
theorem dX11_duelOne_67 : decode cX11_duelOne 67 = .ok (.iload_n 1, 1) := by decide +kernel
theorem dX11_duelOne_68 : decode cX11_duelOne 68 = .ok (.iload 4, 2) := by decide +kernel
theorem dX11_duelOne_70 : decode cX11_duelOne 70 = .ok (.bipush 16, 2) := by decide +kernel
theorem dX11_duelOne_72 : decode cX11_duelOne 72 = .ok (.idiv, 1) := by decide +kernel
theorem dX11_duelOne_73 : decode cX11_duelOne 73 = .ok (.iload 5, 2) := by decide +kernel
theorem dX11_duelOne_75 : decode cX11_duelOne 75 = .ok (.invokevirtual 201, 3) := by decide +kernel
theorem dX11_duelOne_78 : decode cX11_duelOne 78 = .ok (.isub, 1) := by decide +kernel
theorem dX11_duelOne_79 : decode cX11_duelOne 79 = .ok (.istore 6, 2) := by decide +kernel
theorem dX11_duelOne_81 : decode cX11_duelOne 81 = .ok (.iload_n 2, 1) := by decide +kernel
theorem dX11_duelOne_82 : decode cX11_duelOne 82 = .ok (.ifCond .eq 9, 3) := by decide +kernel
theorem dX11_duelOne_85 : decode cX11_duelOne 85 = .ok (.iload 6, 2) := by decide +kernel
theorem dX11_duelOne_87 : decode cX11_duelOne 87 = .ok (.iload_n 3, 1) := by decide +kernel
theorem dX11_duelOne_88 : decode cX11_duelOne 88 = .ok (.if_icmp .le 8, 3) := by decide +kernel
theorem dX11_duelOne_91 : decode cX11_duelOne 91 = .ok (.iload 6, 2) := by decide +kernel
theorem dX11_duelOne_93 : decode cX11_duelOne 93 = .ok (.goto 4, 3) := by decide +kernel
theorem dX11_duelOne_96 : decode cX11_duelOne 96 = .ok (.iload_n 3, 1) := by decide +kernel
theorem dX11_duelOne_97 : decode cX11_duelOne 97 = .ok (.istore_n 3, 1) := by decide +kernel
theorem dX11_duelOne_98 : decode cX11_duelOne 98 = .ok (.iconst 1, 1) := by decide +kernel
theorem dX11_duelOne_99 : decode cX11_duelOne 99 = .ok (.istore_n 2, 1) := by decide +kernel
theorem dX11_duelOne_100 : decode cX11_duelOne 100 = .ok (.iinc 4 1, 3) := by decide +kernel
theorem dX11_duelOne_103 : decode cX11_duelOne 103 = .ok (.goto (-96), 3) := by decide +kernel
theorem dX11_duelOne_106 : decode cX11_duelOne 106 = .ok (.iload_n 3, 1) := by decide +kernel
theorem dX11_duelOne_107 : decode cX11_duelOne 107 = .ok (.ireturn, 1) := by decide +kernel
theorem dX11_duel_0 : decode cX11_duel 0 = .ok (.aload_n 0, 1) := by decide +kernel
theorem dX11_duel_1 : decode cX11_duel 1 = .ok (.iload_n 1, 1) := by decide +kernel
theorem dX11_duel_2 : decode cX11_duel 2 = .ok (.invokevirtual 179, 3) := by decide +kernel
theorem dX11_duel_5 : decode cX11_duel 5 = .ok (.ifCond .eq 16, 3) := by decide +kernel
theorem dX11_duel_8 : decode cX11_duel 8 = .ok (.aload_n 0, 1) := by decide +kernel
theorem dX11_duel_9 : decode cX11_duel 9 = .ok (.iload_n 2, 1) := by decide +kernel
theorem dX11_duel_10 : decode cX11_duel 10 = .ok (.invokevirtual 179, 3) := by decide +kernel
theorem dX11_duel_13 : decode cX11_duel 13 = .ok (.ifCond .eq 8, 3) := by decide +kernel
theorem dX11_duel_16 : decode cX11_duel 16 = .ok (.iload_n 1, 1) := by decide +kernel
theorem dX11_duel_17 : decode cX11_duel 17 = .ok (.iload_n 2, 1) := by decide +kernel
theorem dX11_duel_18 : decode cX11_duel 18 = .ok (.if_icmp .ne 6, 3) := by decide +kernel
theorem dX11_duel_21 : decode cX11_duel 21 = .ok (.ldc 234, 2) := by decide +kernel
theorem dX11_duel_23 : decode cX11_duel 23 = .ok (.ireturn, 1) := by decide +kernel
theorem dX11_duel_24 : decode cX11_duel 24 = .ok (.iload_n 3, 1) := by decide +kernel
theorem dX11_duel_25 : decode cX11_duel 25 = .ok (.iconst 1, 1) := by decide +kernel
theorem dX11_duel_26 : decode cX11_duel 26 = .ok (.iconst 2, 1) := by decide +kernel
theorem dX11_duel_27 : decode cX11_duel 27 = .ok (.invokestatic 84, 3) := by decide +kernel
theorem dX11_duel_30 : decode cX11_duel 30 = .ok (.ifCond .eq 13, 3) := by decide +kernel
theorem dX11_duel_33 : decode cX11_duel 33 = .ok (.iload 4, 2) := by decide +kernel
theorem dX11_duel_35 : decode cX11_duel 35 = .ok (.iconst 0, 1) := by decide +kernel
theorem dX11_duel_36 : decode cX11_duel 36 = .ok (.iconst 1, 1) := by decide +kernel
theorem dX11_duel_37 : decode cX11_duel 37 = .ok (.invokestatic 84, 3) := by decide +kernel
theorem dX11_duel_40 : decode cX11_duel 40 = .ok (.ifCond .ne 6, 3) := by decide +kernel
theorem dX11_duel_43 : decode cX11_duel 43 = .ok (.ldc 235, 2) := by decide +kernel
theorem dX11_duel_45 : decode cX11_duel 45 = .ok (.ireturn, 1) := by decide +kernel
theorem dX11_duel_46 : decode cX11_duel 46 = .ok (.iconst (-1), 1) := by decide +kernel
theorem dX11_duel_47 : decode cX11_duel 47 = .ok (.istore 5, 2) := by decide +kernel
theorem dX11_duel_49 : decode cX11_duel 49 = .ok (.iload_n 3, 1) := by decide +kernel
theorem dX11_duel_50 : decode cX11_duel 50 = .ok (.iconst 1, 1) := by decide +kernel
theorem dX11_duel_51 : decode cX11_duel 51 = .ok (.if_icmp .ne 7, 3) := by decide +kernel
theorem dX11_duel_54 : decode cX11_duel 54 = .ok (.iconst 0, 1) := by decide +kernel
theorem dX11_duel_55 : decode cX11_duel 55 = .ok (.goto 9, 3) := by decide +kernel
theorem dX11_duel_58 : decode cX11_duel 58 = .ok (.aload_n 0, 1) := by decide +kernel
theorem dX11_duel_59 : decode cX11_duel 59 = .ok (.iload_n 2, 1) := by decide +kernel
theorem dX11_duel_60 : decode cX11_duel 60 = .ok (.invokevirtual 236, 3) := by decide +kernel
theorem dX11_duel_63 : decode cX11_duel 63 = .ok (.ineg, 1) := by decide +kernel
theorem dX11_duel_64 : decode cX11_duel 64 = .ok (.istore 6, 2) := by decide +kernel
theorem dX11_duel_66 : decode cX11_duel 66 = .ok (.iconst 0, 1) := by decide +kernel
theorem dX11_duel_67 : decode cX11_duel 67 = .ok (.istore 7, 2) := by decide +kernel
theorem dX11_duel_69 : decode cX11_duel 69 = .ok (.iload 7, 2) := by decide +kernel
theorem dX11_duel_71 : decode cX11_duel 71 = .ok (.bipush 16, 2) := by decide +kernel
theorem dX11_duel_73 : decode cX11_duel 73 = .ok (.aload_n 0, 1) := by decide +kernel
theorem dX11_duel_74 : decode cX11_duel 74 = .ok (.getfield 88, 3) := by decide +kernel
theorem dX11_duel_77 : decode cX11_duel 77 = .ok (.imul, 1) := by decide +kernel
theorem dX11_duel_78 : decode cX11_duel 78 = .ok (.if_icmp .ge 131, 3) := by decide +kernel
theorem dX11_duel_81 : decode cX11_duel 81 = .ok (.aload_n 0, 1) := by decide +kernel
theorem dX11_duel_82 : decode cX11_duel 82 = .ok (.iload_n 1, 1) := by decide +kernel
theorem dX11_duel_83 : decode cX11_duel 83 = .ok (.iload 7, 2) := by decide +kernel
theorem dX11_duel_85 : decode cX11_duel 85 = .ok (.bipush 16, 2) := by decide +kernel
theorem dX11_duel_87 : decode cX11_duel 87 = .ok (.idiv, 1) := by decide +kernel
theorem dX11_duel_88 : decode cX11_duel 88 = .ok (.iload 7, 2) := by decide +kernel
theorem dX11_duel_90 : decode cX11_duel 90 = .ok (.bipush 16, 2) := by decide +kernel
theorem dX11_duel_92 : decode cX11_duel 92 = .ok (.irem, 1) := by decide +kernel
theorem dX11_duel_93 : decode cX11_duel 93 = .ok (.invokevirtual 216, 3) := by decide +kernel
theorem dX11_duel_96 : decode cX11_duel 96 = .ok (.ifCond .eq 107, 3) := by decide +kernel
theorem dX11_duel_99 : decode cX11_duel 99 = .ok (.aload_n 0, 1) := by decide +kernel
theorem dX11_duel_100 : decode cX11_duel 100 = .ok (.invokevirtual 222, 3) := by decide +kernel
theorem dX11_duel_103 : decode cX11_duel 103 = .ok (.aload_n 0, 1) := by decide +kernel
theorem dX11_duel_104 : decode cX11_duel 104 = .ok (.iload_n 1, 1) := by decide +kernel
theorem dX11_duel_105 : decode cX11_duel 105 = .ok (.iload 7, 2) := by decide +kernel
theorem dX11_duel_107 : decode cX11_duel 107 = .ok (.bipush 16, 2) := by decide +kernel
theorem dX11_duel_109 : decode cX11_duel 109 = .ok (.idiv, 1) := by decide +kernel
theorem dX11_duel_110 : decode cX11_duel 110 = .ok (.iload 7, 2) := by decide +kernel
theorem dX11_duel_112 : decode cX11_duel 112 = .ok (.bipush 16, 2) := by decide +kernel
theorem dX11_duel_114 : decode cX11_duel 114 = .ok (.irem, 1) := by decide +kernel
theorem dX11_duel_115 : decode cX11_duel 115 = .ok (.invokevirtual 210, 3) := by decide +kernel
theorem dX11_duel_118 : decode cX11_duel 118 = .ok (.istore 8, 2) := by decide +kernel
theorem dX11_duel_120 : decode cX11_duel 120 = .ok (.iload 8, 2) := by decide +kernel
theorem dX11_duel_122 : decode cX11_duel 122 = .ok (.iload_n 3, 1) := by decide +kernel
theorem dX11_duel_123 : decode cX11_duel 123 = .ok (.iconst 1, 1) := by decide +kernel
theorem dX11_duel_124 : decode cX11_duel 124 = .ok (.if_icmp .ne 7, 3) := by decide +kernel
theorem dX11_duel_127 : decode cX11_duel 127 = .ok (.iconst 0, 1) := by decide +kernel
theorem dX11_duel_128 : decode cX11_duel 128 = .ok (.goto 8, 3) := by decide +kernel
theorem dX11_duel_131 : decode cX11_duel 131 = .ok (.aload_n 0, 1) := by decide +kernel
theorem dX11_duel_132 : decode cX11_duel 132 = .ok (.iload_n 2, 1) := by decide +kernel
theorem dX11_duel_133 : decode cX11_duel 133 = .ok (.invokevirtual 236, 3) := by decide +kernel
theorem dX11_duel_136 : decode cX11_duel 136 = .ok (.isub, 1) := by decide +kernel
theorem dX11_duel_137 : decode cX11_duel 137 = .ok (.istore 8, 2) := by decide +kernel
theorem dX11_duel_139 : decode cX11_duel 139 = .ok (.aload_n 0, 1) := by decide +kernel
theorem dX11_duel_140 : decode cX11_duel 140 = .ok (.invokevirtual 225, 3) := by decide +kernel
theorem dX11_duel_143 : decode cX11_duel 143 = .ok (.iload 5, 2) := by decide +kernel
theorem dX11_duel_145 : decode cX11_duel 145 = .ok (.iconst (-1), 1) := by decide +kernel
theorem dX11_duel_146 : decode cX11_duel 146 = .ok (.if_icmp .eq 10, 3) := by decide +kernel
theorem dX11_duel_149 : decode cX11_duel 149 = .ok (.iload 8, 2) := by decide +kernel
theorem dX11_duel_151 : decode cX11_duel 151 = .ok (.iload 6, 2) := by decide +kernel
theorem dX11_duel_153 : decode cX11_duel 153 = .ok (.if_icmp .le 7, 3) := by decide +kernel
theorem dX11_duel_156 : decode cX11_duel 156 = .ok (.iconst 1, 1) := by decide +kernel
theorem dX11_duel_157 : decode cX11_duel 157 = .ok (.goto 4, 3) := by decide +kernel
theorem dX11_duel_160 : decode cX11_duel 160 = .ok (.iconst 0, 1) := by decide +kernel
theorem dX11_duel_161 : decode cX11_duel 161 = .ok (.istore 9, 2) := by decide +kernel
theorem dX11_duel_163 : decode cX11_duel 163 = .ok (.iload 9, 2) := by decide +kernel
theorem dX11_duel_165 : decode cX11_duel 165 = .ok (.ifCond .eq 20, 3) := by decide +kernel
theorem dX11_duel_168 : decode cX11_duel 168 = .ok (.bipush 100, 2) := by decide +kernel
theorem dX11_duel_170 : decode cX11_duel 170 = .ok (.iload 7, 2) := by decide +kernel
theorem dX11_duel_172 : decode cX11_duel 172 = .ok (.bipush 16, 2) := by decide +kernel
theorem dX11_duel_174 : decode cX11_duel 174 = .ok (.idiv, 1) := by decide +kernel
theorem dX11_duel_175 : decode cX11_duel 175 = .ok (.imul, 1) := by decide +kernel
theorem dX11_duel_176 : decode cX11_duel 176 = .ok (.iload 7, 2) := by decide +kernel
theorem dX11_duel_178 : decode cX11_duel 178 = .ok (.bipush 16, 2) := by decide +kernel
theorem dX11_duel_180 : decode cX11_duel 180 = .ok (.irem, 1) := by decide +kernel
theorem dX11_duel_181 : decode cX11_duel 181 = .ok (.iadd, 1) := by decide +kernel
theorem dX11_duel_182 : decode cX11_duel 182 = .ok (.goto 5, 3) := by decide +kernel
theorem dX11_duel_185 : decode cX11_duel 185 = .ok (.iload 5, 2) := by decide +kernel
theorem dX11_duel_187 : decode cX11_duel 187 = .ok (.istore 5, 2) := by decide +kernel
theorem dX11_duel_189 : decode cX11_duel 189 = .ok (.iload 9, 2) := by decide +kernel
theorem dX11_duel_191 : decode cX11_duel 191 = .ok (.ifCond .eq 8, 3) := by decide +kernel
theorem dX11_duel_194 : decode cX11_duel 194 = .ok (.iload 8, 2) := by decide +kernel
theorem dX11_duel_196 : decode cX11_duel 196 = .ok (.goto 5, 3) := by decide +kernel
theorem dX11_duel_199 : decode cX11_duel 199 = .ok (.iload 6, 2) := by decide +kernel
theorem dX11_duel_201 : decode cX11_duel 201 = .ok (.istore 6, 2) := by decide +kernel
theorem dX11_duel_203 : decode cX11_duel 203 = .ok (.iinc 7 1, 3) := by decide +kernel
theorem dX11_duel_206 : decode cX11_duel 206 = .ok (.goto (-137), 3) := by decide +kernel
theorem dX11_duel_209 : decode cX11_duel 209 = .ok (.iload 4, 2) := by decide +kernel
theorem dX11_duel_211 : decode cX11_duel 211 = .ok (.ifCond .ne 8, 3) := by decide +kernel
theorem dX11_duel_214 : decode cX11_duel 214 = .ok (.iload 6, 2) := by decide +kernel
theorem dX11_duel_216 : decode cX11_duel 216 = .ok (.goto 5, 3) := by decide +kernel
theorem dX11_duel_219 : decode cX11_duel 219 = .ok (.iload 5, 2) := by decide +kernel
theorem dX11_duel_221 : decode cX11_duel 221 = .ok (.ireturn, 1) := by decide +kernel
theorem dX11_fewestOf_0 : decode cX11_fewestOf 0 = .ok (.aload_n 0, 1) := by decide +kernel
theorem dX11_fewestOf_1 : decode cX11_fewestOf 1 = .ok (.iload_n 1, 1) := by decide +kernel
theorem dX11_fewestOf_2 : decode cX11_fewestOf 2 = .ok (.iload_n 2, 1) := by decide +kernel
theorem dX11_fewestOf_3 : decode cX11_fewestOf 3 = .ok (.invokevirtual 189, 3) := by decide +kernel
theorem dX11_fewestOf_6 : decode cX11_fewestOf 6 = .ok (.istore_n 3, 1) := by decide +kernel
theorem dX11_fewestOf_7 : decode cX11_fewestOf 7 = .ok (.aload_n 0, 1) := by decide +kernel
theorem dX11_fewestOf_8 : decode cX11_fewestOf 8 = .ok (.iload_n 2, 1) := by decide +kernel
theorem dX11_fewestOf_9 : decode cX11_fewestOf 9 = .ok (.invokevirtual 167, 3) := by decide +kernel
theorem dX11_fewestOf_12 : decode cX11_fewestOf 12 = .ok (.istore 4, 2) := by decide +kernel
theorem dX11_fewestOf_14 : decode cX11_fewestOf 14 = .ok (.aload_n 0, 1) := by decide +kernel
theorem dX11_fewestOf_15 : decode cX11_fewestOf 15 = .ok (.getfield 70, 3) := by decide +kernel
theorem dX11_fewestOf_18 : decode cX11_fewestOf 18 = .ok (.iconst 0, 1) := by decide +kernel
theorem dX11_fewestOf_19 : decode cX11_fewestOf 19 = .ok (.iconst 0, 1) := by decide +kernel
theorem dX11_fewestOf_20 : decode cX11_fewestOf 20 = .ok (.iastore, 1) := by decide +kernel
theorem dX11_fewestOf_21 : decode cX11_fewestOf 21 = .ok (.iconst 1, 1) := by decide +kernel
theorem dX11_fewestOf_22 : decode cX11_fewestOf 22 = .ok (.istore 5, 2) := by decide +kernel
theorem dX11_fewestOf_24 : decode cX11_fewestOf 24 = .ok (.iload 5, 2) := by decide +kernel
theorem dX11_fewestOf_26 : decode cX11_fewestOf 26 = .ok (.iload 4, 2) := by decide +kernel
theorem dX11_fewestOf_28 : decode cX11_fewestOf 28 = .ok (.if_icmp .gt 112, 3) := by decide +kernel
theorem dX11_fewestOf_31 : decode cX11_fewestOf 31 = .ok (.iconst (-1), 1) := by decide +kernel
theorem dX11_fewestOf_32 : decode cX11_fewestOf 32 = .ok (.istore 6, 2) := by decide +kernel
theorem dX11_fewestOf_34 : decode cX11_fewestOf 34 = .ok (.iconst 0, 1) := by decide +kernel
theorem dX11_fewestOf_35 : decode cX11_fewestOf 35 = .ok (.istore 7, 2) := by decide +kernel
theorem dX11_fewestOf_37 : decode cX11_fewestOf 37 = .ok (.iload 7, 2) := by decide +kernel
theorem dX11_fewestOf_39 : decode cX11_fewestOf 39 = .ok (.bipush 16, 2) := by decide +kernel
theorem dX11_fewestOf_41 : decode cX11_fewestOf 41 = .ok (.if_icmp .ge 84, 3) := by decide +kernel
theorem dX11_fewestOf_44 : decode cX11_fewestOf 44 = .ok (.iload 5, 2) := by decide +kernel
theorem dX11_fewestOf_46 : decode cX11_fewestOf 46 = .ok (.iload 4, 2) := by decide +kernel
theorem dX11_fewestOf_48 : decode cX11_fewestOf 48 = .ok (.iconst (-1), 1) := by decide +kernel
theorem dX11_fewestOf_49 : decode cX11_fewestOf 49 = .ok (.ixor, 1) := by decide +kernel
theorem dX11_fewestOf_50 : decode cX11_fewestOf 50 = .ok (.iand, 1) := by decide +kernel
theorem dX11_fewestOf_51 : decode cX11_fewestOf 51 = .ok (.ifCond .ne 74, 3) := by decide +kernel
theorem dX11_fewestOf_54 : decode cX11_fewestOf 54 = .ok (.iload_n 3, 1) := by decide +kernel
theorem dX11_fewestOf_55 : decode cX11_fewestOf 55 = .ok (.iload 5, 2) := by decide +kernel
theorem dX11_fewestOf_57 : decode cX11_fewestOf 57 = .ok (.iload 7, 2) := by decide +kernel
theorem dX11_fewestOf_59 : decode cX11_fewestOf 59 = .ok (.invokestatic 192, 3) := by decide +kernel
theorem dX11_fewestOf_62 : decode cX11_fewestOf 62 = .ok (.istore 8, 2) := by decide +kernel
theorem dX11_fewestOf_64 : decode cX11_fewestOf 64 = .ok (.iload 8, 2) := by decide +kernel
theorem dX11_fewestOf_66 : decode cX11_fewestOf 66 = .ok (.ifCond .ne 7, 3) := by decide +kernel
theorem dX11_fewestOf_69 : decode cX11_fewestOf 69 = .ok (.iconst (-1), 1) := by decide +kernel
theorem dX11_fewestOf_70 : decode cX11_fewestOf 70 = .ok (.goto 15, 3) := by decide +kernel
theorem dX11_fewestOf_73 : decode cX11_fewestOf 73 = .ok (.aload_n 0, 1) := by decide +kernel
theorem dX11_fewestOf_74 : decode cX11_fewestOf 74 = .ok (.getfield 70, 3) := by decide +kernel
theorem dX11_fewestOf_77 : decode cX11_fewestOf 77 = .ok (.iload 5, 2) := by decide +kernel
theorem dX11_fewestOf_79 : decode cX11_fewestOf 79 = .ok (.iload 8, 2) := by decide +kernel
theorem dX11_fewestOf_81 : decode cX11_fewestOf 81 = .ok (.iconst (-1), 1) := by decide +kernel
theorem dX11_fewestOf_82 : decode cX11_fewestOf 82 = .ok (.ixor, 1) := by decide +kernel
theorem dX11_fewestOf_83 : decode cX11_fewestOf 83 = .ok (.iand, 1) := by decide +kernel
theorem dX11_fewestOf_84 : decode cX11_fewestOf 84 = .ok (.iaload, 1) := by decide +kernel
theorem dX11_fewestOf_85 : decode cX11_fewestOf 85 = .ok (.istore 9, 2) := by decide +kernel
theorem dX11_fewestOf_87 : decode cX11_fewestOf 87 = .ok (.iload 9, 2) := by decide +kernel
theorem dX11_fewestOf_89 : decode cX11_fewestOf 89 = .ok (.iconst (-1), 1) := by decide +kernel
theorem dX11_fewestOf_90 : decode cX11_fewestOf 90 = .ok (.if_icmp .eq 25, 3) := by decide +kernel
theorem dX11_fewestOf_93 : decode cX11_fewestOf 93 = .ok (.iload 6, 2) := by decide +kernel
theorem dX11_fewestOf_95 : decode cX11_fewestOf 95 = .ok (.iconst (-1), 1) := by decide +kernel
theorem dX11_fewestOf_96 : decode cX11_fewestOf 96 = .ok (.if_icmp .eq 12, 3) := by decide +kernel
theorem dX11_fewestOf_99 : decode cX11_fewestOf 99 = .ok (.iload 9, 2) := by decide +kernel
theorem dX11_fewestOf_101 : decode cX11_fewestOf 101 = .ok (.iconst 1, 1) := by decide +kernel
theorem dX11_fewestOf_102 : decode cX11_fewestOf 102 = .ok (.iadd, 1) := by decide +kernel
theorem dX11_fewestOf_103 : decode cX11_fewestOf 103 = .ok (.iload 6, 2) := by decide +kernel
theorem dX11_fewestOf_105 : decode cX11_fewestOf 105 = .ok (.if_icmp .ge 10, 3) := by decide +kernel
theorem dX11_fewestOf_108 : decode cX11_fewestOf 108 = .ok (.iload 9, 2) := by decide +kernel
theorem dX11_fewestOf_110 : decode cX11_fewestOf 110 = .ok (.iconst 1, 1) := by decide +kernel
theorem dX11_fewestOf_111 : decode cX11_fewestOf 111 = .ok (.iadd, 1) := by decide +kernel
theorem dX11_fewestOf_112 : decode cX11_fewestOf 112 = .ok (.goto 5, 3) := by decide +kernel
theorem dX11_fewestOf_115 : decode cX11_fewestOf 115 = .ok (.iload 6, 2) := by decide +kernel
theorem dX11_fewestOf_117 : decode cX11_fewestOf 117 = .ok (.istore 6, 2) := by decide +kernel
theorem dX11_fewestOf_119 : decode cX11_fewestOf 119 = .ok (.iinc 7 1, 3) := by decide +kernel
theorem dX11_fewestOf_122 : decode cX11_fewestOf 122 = .ok (.goto (-85), 3) := by decide +kernel
theorem dX11_fewestOf_125 : decode cX11_fewestOf 125 = .ok (.aload_n 0, 1) := by decide +kernel
theorem dX11_fewestOf_126 : decode cX11_fewestOf 126 = .ok (.getfield 70, 3) := by decide +kernel
theorem dX11_fewestOf_129 : decode cX11_fewestOf 129 = .ok (.iload 5, 2) := by decide +kernel
theorem dX11_fewestOf_131 : decode cX11_fewestOf 131 = .ok (.iload 6, 2) := by decide +kernel
theorem dX11_fewestOf_133 : decode cX11_fewestOf 133 = .ok (.iastore, 1) := by decide +kernel
theorem dX11_fewestOf_134 : decode cX11_fewestOf 134 = .ok (.iinc 5 1, 3) := by decide +kernel
theorem dX11_fewestOf_137 : decode cX11_fewestOf 137 = .ok (.goto (-113), 3) := by decide +kernel
theorem dX11_fewestOf_140 : decode cX11_fewestOf 140 = .ok (.aload_n 0, 1) := by decide +kernel
theorem dX11_fewestOf_141 : decode cX11_fewestOf 141 = .ok (.getfield 70, 3) := by decide +kernel
theorem dX11_fewestOf_144 : decode cX11_fewestOf 144 = .ok (.iload 4, 2) := by decide +kernel
theorem dX11_fewestOf_146 : decode cX11_fewestOf 146 = .ok (.iaload, 1) := by decide +kernel
theorem dX11_fewestOf_147 : decode cX11_fewestOf 147 = .ok (.ireturn, 1) := by decide +kernel
theorem dX11_fewest_0 : decode cX11_fewest 0 = .ok (.aload_n 0, 1) := by decide +kernel
theorem dX11_fewest_1 : decode cX11_fewest 1 = .ok (.iload_n 1, 1) := by decide +kernel
theorem dX11_fewest_2 : decode cX11_fewest 2 = .ok (.invokevirtual 179, 3) := by decide +kernel
theorem dX11_fewest_5 : decode cX11_fewest 5 = .ok (.ifCond .eq 20, 3) := by decide +kernel
theorem dX11_fewest_8 : decode cX11_fewest 8 = .ok (.aload_n 0, 1) := by decide +kernel
theorem dX11_fewest_9 : decode cX11_fewest 9 = .ok (.iload_n 2, 1) := by decide +kernel
theorem dX11_fewest_10 : decode cX11_fewest 10 = .ok (.invokevirtual 182, 3) := by decide +kernel
theorem dX11_fewest_13 : decode cX11_fewest 13 = .ok (.ifCond .eq 12, 3) := by decide +kernel
theorem dX11_fewest_16 : decode cX11_fewest 16 = .ok (.aload_n 0, 1) := by decide +kernel
theorem dX11_fewest_17 : decode cX11_fewest 17 = .ok (.iload_n 1, 1) := by decide +kernel
theorem dX11_fewest_18 : decode cX11_fewest 18 = .ok (.iload_n 2, 1) := by decide +kernel
theorem dX11_fewest_19 : decode cX11_fewest 19 = .ok (.invokevirtual 239, 3) := by decide +kernel
theorem dX11_fewest_22 : decode cX11_fewest 22 = .ok (.goto 5, 3) := by decide +kernel
theorem dX11_fewest_25 : decode cX11_fewest 25 = .ok (.bipush (-5), 2) := by decide +kernel
theorem dX11_fewest_27 : decode cX11_fewest 27 = .ok (.ireturn, 1) := by decide +kernel
theorem dX11_soonest_0 : decode cX11_soonest 0 = .ok (.aload_n 0, 1) := by decide +kernel
theorem dX11_soonest_1 : decode cX11_soonest 1 = .ok (.iload_n 1, 1) := by decide +kernel
theorem dX11_soonest_2 : decode cX11_soonest 2 = .ok (.invokevirtual 182, 3) := by decide +kernel
theorem dX11_soonest_5 : decode cX11_soonest 5 = .ok (.ifCond .ne 6, 3) := by decide +kernel
theorem dX11_soonest_8 : decode cX11_soonest 8 = .ok (.bipush (-5), 2) := by decide +kernel
theorem dX11_soonest_10 : decode cX11_soonest 10 = .ok (.ireturn, 1) := by decide +kernel
theorem dX11_soonest_11 : decode cX11_soonest 11 = .ok (.iload_n 2, 1) := by decide +kernel
theorem dX11_soonest_12 : decode cX11_soonest 12 = .ok (.iconst 0, 1) := by decide +kernel
theorem dX11_soonest_13 : decode cX11_soonest 13 = .ok (.iconst 1, 1) := by decide +kernel
theorem dX11_soonest_14 : decode cX11_soonest 14 = .ok (.invokestatic 84, 3) := by decide +kernel
theorem dX11_soonest_17 : decode cX11_soonest 17 = .ok (.ifCond .ne 6, 3) := by decide +kernel
theorem dX11_soonest_20 : decode cX11_soonest 20 = .ok (.bipush (-7), 2) := by decide +kernel
theorem dX11_soonest_22 : decode cX11_soonest 22 = .ok (.ireturn, 1) := by decide +kernel
theorem dX11_soonest_23 : decode cX11_soonest 23 = .ok (.iconst (-1), 1) := by decide +kernel
theorem dX11_soonest_24 : decode cX11_soonest 24 = .ok (.istore_n 3, 1) := by decide +kernel
theorem dX11_soonest_25 : decode cX11_soonest 25 = .ok (.iconst (-1), 1) := by decide +kernel
theorem dX11_soonest_26 : decode cX11_soonest 26 = .ok (.istore 4, 2) := by decide +kernel
theorem dX11_soonest_28 : decode cX11_soonest 28 = .ok (.iconst 0, 1) := by decide +kernel
theorem dX11_soonest_29 : decode cX11_soonest 29 = .ok (.istore 5, 2) := by decide +kernel
theorem dX11_soonest_31 : decode cX11_soonest 31 = .ok (.iload 5, 2) := by decide +kernel
theorem dX11_soonest_33 : decode cX11_soonest 33 = .ok (.aload_n 0, 1) := by decide +kernel
theorem dX11_soonest_34 : decode cX11_soonest 34 = .ok (.getfield 81, 3) := by decide +kernel
theorem dX11_soonest_37 : decode cX11_soonest 37 = .ok (.if_icmp .ge 69, 3) := by decide +kernel
theorem dX11_soonest_40 : decode cX11_soonest 40 = .ok (.aload_n 0, 1) := by decide +kernel
theorem dX11_soonest_41 : decode cX11_soonest 41 = .ok (.iload 5, 2) := by decide +kernel
theorem dX11_soonest_43 : decode cX11_soonest 43 = .ok (.iload_n 1, 1) := by decide +kernel
theorem dX11_soonest_44 : decode cX11_soonest 44 = .ok (.invokevirtual 239, 3) := by decide +kernel
theorem dX11_soonest_47 : decode cX11_soonest 47 = .ok (.istore 6, 2) := by decide +kernel
theorem dX11_soonest_49 : decode cX11_soonest 49 = .ok (.iload 6, 2) := by decide +kernel
theorem dX11_soonest_51 : decode cX11_soonest 51 = .ok (.iconst (-1), 1) := by decide +kernel
theorem dX11_soonest_52 : decode cX11_soonest 52 = .ok (.if_icmp .eq 19, 3) := by decide +kernel
theorem dX11_soonest_55 : decode cX11_soonest 55 = .ok (.iload_n 3, 1) := by decide +kernel
theorem dX11_soonest_56 : decode cX11_soonest 56 = .ok (.iconst (-1), 1) := by decide +kernel
theorem dX11_soonest_57 : decode cX11_soonest 57 = .ok (.if_icmp .eq 10, 3) := by decide +kernel
theorem dX11_soonest_60 : decode cX11_soonest 60 = .ok (.iload 6, 2) := by decide +kernel
theorem dX11_soonest_62 : decode cX11_soonest 62 = .ok (.iload 4, 2) := by decide +kernel
theorem dX11_soonest_64 : decode cX11_soonest 64 = .ok (.if_icmp .ge 7, 3) := by decide +kernel
theorem dX11_soonest_67 : decode cX11_soonest 67 = .ok (.iconst 1, 1) := by decide +kernel
theorem dX11_soonest_68 : decode cX11_soonest 68 = .ok (.goto 4, 3) := by decide +kernel
theorem dX11_soonest_71 : decode cX11_soonest 71 = .ok (.iconst 0, 1) := by decide +kernel
theorem dX11_soonest_72 : decode cX11_soonest 72 = .ok (.istore 7, 2) := by decide +kernel
theorem dX11_soonest_74 : decode cX11_soonest 74 = .ok (.iload 7, 2) := by decide +kernel
theorem dX11_soonest_76 : decode cX11_soonest 76 = .ok (.ifCond .eq 8, 3) := by decide +kernel
theorem dX11_soonest_79 : decode cX11_soonest 79 = .ok (.iload 5, 2) := by decide +kernel
theorem dX11_soonest_81 : decode cX11_soonest 81 = .ok (.goto 4, 3) := by decide +kernel
theorem dX11_soonest_84 : decode cX11_soonest 84 = .ok (.iload_n 3, 1) := by decide +kernel
theorem dX11_soonest_85 : decode cX11_soonest 85 = .ok (.istore_n 3, 1) := by decide +kernel
theorem dX11_soonest_86 : decode cX11_soonest 86 = .ok (.iload 7, 2) := by decide +kernel
theorem dX11_soonest_88 : decode cX11_soonest 88 = .ok (.ifCond .eq 8, 3) := by decide +kernel
theorem dX11_soonest_91 : decode cX11_soonest 91 = .ok (.iload 6, 2) := by decide +kernel
theorem dX11_soonest_93 : decode cX11_soonest 93 = .ok (.goto 5, 3) := by decide +kernel
theorem dX11_soonest_96 : decode cX11_soonest 96 = .ok (.iload 4, 2) := by decide +kernel
theorem dX11_soonest_98 : decode cX11_soonest 98 = .ok (.istore 4, 2) := by decide +kernel
theorem dX11_soonest_100 : decode cX11_soonest 100 = .ok (.iinc 5 1, 3) := by decide +kernel
theorem dX11_soonest_103 : decode cX11_soonest 103 = .ok (.goto (-72), 3) := by decide +kernel
theorem dX11_soonest_106 : decode cX11_soonest 106 = .ok (.iload_n 2, 1) := by decide +kernel
theorem dX11_soonest_107 : decode cX11_soonest 107 = .ok (.ifCond .ne 7, 3) := by decide +kernel
theorem dX11_soonest_110 : decode cX11_soonest 110 = .ok (.iload_n 3, 1) := by decide +kernel
theorem dX11_soonest_111 : decode cX11_soonest 111 = .ok (.goto 5, 3) := by decide +kernel
theorem dX11_soonest_114 : decode cX11_soonest 114 = .ok (.iload 4, 2) := by decide +kernel
theorem dX11_soonest_116 : decode cX11_soonest 116 = .ok (.ireturn, 1) := by decide +kernel
theorem dX11_hire_0 : decode cX11_hire 0 = .ok (.aload_n 0, 1) := by decide +kernel
theorem dX11_hire_1 : decode cX11_hire 1 = .ok (.iload_n 1, 1) := by decide +kernel
theorem dX11_hire_2 : decode cX11_hire 2 = .ok (.invokevirtual 179, 3) := by decide +kernel
theorem dX11_hire_5 : decode cX11_hire 5 = .ok (.ifCond .ne 6, 3) := by decide +kernel
theorem dX11_hire_8 : decode cX11_hire 8 = .ok (.bipush (-5), 2) := by decide +kernel
theorem dX11_hire_10 : decode cX11_hire 10 = .ok (.ireturn, 1) := by decide +kernel
theorem dX11_hire_11 : decode cX11_hire 11 = .ok (.iload_n 2, 1) := by decide +kernel
theorem dX11_hire_12 : decode cX11_hire 12 = .ok (.iconst 0, 1) := by decide +kernel
theorem dX11_hire_13 : decode cX11_hire 13 = .ok (.iconst 1, 1) := by decide +kernel
theorem dX11_hire_14 : decode cX11_hire 14 = .ok (.invokestatic 84, 3) := by decide +kernel
theorem dX11_hire_17 : decode cX11_hire 17 = .ok (.ifCond .ne 6, 3) := by decide +kernel
theorem dX11_hire_20 : decode cX11_hire 20 = .ok (.bipush (-7), 2) := by decide +kernel
theorem dX11_hire_22 : decode cX11_hire 22 = .ok (.ireturn, 1) := by decide +kernel
theorem dX11_hire_23 : decode cX11_hire 23 = .ok (.aload_n 0, 1) := by decide +kernel
theorem dX11_hire_24 : decode cX11_hire 24 = .ok (.iload_n 1, 1) := by decide +kernel
theorem dX11_hire_25 : decode cX11_hire 25 = .ok (.invokevirtual 219, 3) := by decide +kernel
theorem dX11_hire_28 : decode cX11_hire 28 = .ok (.pop, 1) := by decide +kernel
theorem dX11_hire_29 : decode cX11_hire 29 = .ok (.aload_n 0, 1) := by decide +kernel
theorem dX11_hire_30 : decode cX11_hire 30 = .ok (.getfield 13, 3) := by decide +kernel
theorem dX11_hire_33 : decode cX11_hire 33 = .ok (.iload_n 1, 1) := by decide +kernel
theorem dX11_hire_34 : decode cX11_hire 34 = .ok (.iaload, 1) := by decide +kernel
theorem dX11_hire_35 : decode cX11_hire 35 = .ok (.istore_n 3, 1) := by decide +kernel
theorem dX11_hire_36 : decode cX11_hire 36 = .ok (.aload_n 0, 1) := by decide +kernel
theorem dX11_hire_37 : decode cX11_hire 37 = .ok (.getfield 16, 3) := by decide +kernel
theorem dX11_hire_40 : decode cX11_hire 40 = .ok (.iload_n 1, 1) := by decide +kernel
theorem dX11_hire_41 : decode cX11_hire 41 = .ok (.iaload, 1) := by decide +kernel
theorem dX11_hire_42 : decode cX11_hire 42 = .ok (.istore 4, 2) := by decide +kernel
theorem dX11_hire_44 : decode cX11_hire 44 = .ok (.iconst (-1), 1) := by decide +kernel
theorem dX11_hire_45 : decode cX11_hire 45 = .ok (.istore 5, 2) := by decide +kernel
theorem dX11_hire_47 : decode cX11_hire 47 = .ok (.aload_n 0, 1) := by decide +kernel
theorem dX11_hire_48 : decode cX11_hire 48 = .ok (.getfield 213, 3) := by decide +kernel
theorem dX11_hire_51 : decode cX11_hire 51 = .ok (.istore 6, 2) := by decide +kernel
theorem dX11_hire_53 : decode cX11_hire 53 = .ok (.iconst 1, 1) := by decide +kernel
theorem dX11_hire_54 : decode cX11_hire 54 = .ok (.istore 7, 2) := by decide +kernel
theorem dX11_hire_56 : decode cX11_hire 56 = .ok (.iload 7, 2) := by decide +kernel
theorem dX11_hire_58 : decode cX11_hire 58 = .ok (.iconst 5, 1) := by decide +kernel
theorem dX11_hire_59 : decode cX11_hire 59 = .ok (.if_icmp .gt 95, 3) := by decide +kernel
theorem dX11_hire_62 : decode cX11_hire 62 = .ok (.aload_n 0, 1) := by decide +kernel
theorem dX11_hire_63 : decode cX11_hire 63 = .ok (.getfield 13, 3) := by decide +kernel
theorem dX11_hire_66 : decode cX11_hire 66 = .ok (.iload_n 1, 1) := by decide +kernel
theorem dX11_hire_67 : decode cX11_hire 67 = .ok (.iconst 5, 1) := by decide +kernel
theorem dX11_hire_68 : decode cX11_hire 68 = .ok (.iastore, 1) := by decide +kernel
theorem dX11_hire_69 : decode cX11_hire 69 = .ok (.aload_n 0, 1) := by decide +kernel
theorem dX11_hire_70 : decode cX11_hire 70 = .ok (.getfield 16, 3) := by decide +kernel
theorem dX11_hire_73 : decode cX11_hire 73 = .ok (.iload_n 1, 1) := by decide +kernel
theorem dX11_hire_74 : decode cX11_hire 74 = .ok (.iconst 2, 1) := by decide +kernel
theorem dX11_hire_75 : decode cX11_hire 75 = .ok (.iload 7, 2) := by decide +kernel
theorem dX11_hire_77 : decode cX11_hire 77 = .ok (.imul, 1) := by decide +kernel
theorem dX11_hire_78 : decode cX11_hire 78 = .ok (.iconst 2, 1) := by decide +kernel
theorem dX11_hire_79 : decode cX11_hire 79 = .ok (.isub, 1) := by decide +kernel
theorem dX11_hire_80 : decode cX11_hire 80 = .ok (.iastore, 1) := by decide +kernel
theorem dX11_hire_81 : decode cX11_hire 81 = .ok (.aload_n 0, 1) := by decide +kernel
theorem dX11_hire_82 : decode cX11_hire 82 = .ok (.iload_n 1, 1) := by decide +kernel
theorem dX11_hire_83 : decode cX11_hire 83 = .ok (.invokevirtual 219, 3) := by decide +kernel
theorem dX11_hire_86 : decode cX11_hire 86 = .ok (.iconst (-1), 1) := by decide +kernel
theorem dX11_hire_87 : decode cX11_hire 87 = .ok (.if_icmp .eq 7, 3) := by decide +kernel
theorem dX11_hire_90 : decode cX11_hire 90 = .ok (.iconst 1, 1) := by decide +kernel
theorem dX11_hire_91 : decode cX11_hire 91 = .ok (.goto 4, 3) := by decide +kernel
theorem dX11_hire_94 : decode cX11_hire 94 = .ok (.iconst 0, 1) := by decide +kernel
theorem dX11_hire_95 : decode cX11_hire 95 = .ok (.istore 8, 2) := by decide +kernel
theorem dX11_hire_97 : decode cX11_hire 97 = .ok (.iload 8, 2) := by decide +kernel
theorem dX11_hire_99 : decode cX11_hire 99 = .ok (.ifCond .eq 16, 3) := by decide +kernel
theorem dX11_hire_102 : decode cX11_hire 102 = .ok (.aload_n 0, 1) := by decide +kernel
theorem dX11_hire_103 : decode cX11_hire 103 = .ok (.getfield 213, 3) := by decide +kernel
theorem dX11_hire_106 : decode cX11_hire 106 = .ok (.iload 6, 2) := by decide +kernel
theorem dX11_hire_108 : decode cX11_hire 108 = .ok (.if_icmp .le 7, 3) := by decide +kernel
theorem dX11_hire_111 : decode cX11_hire 111 = .ok (.iconst 1, 1) := by decide +kernel
theorem dX11_hire_112 : decode cX11_hire 112 = .ok (.goto 4, 3) := by decide +kernel
theorem dX11_hire_115 : decode cX11_hire 115 = .ok (.iconst 0, 1) := by decide +kernel
theorem dX11_hire_116 : decode cX11_hire 116 = .ok (.istore 9, 2) := by decide +kernel
theorem dX11_hire_118 : decode cX11_hire 118 = .ok (.iload 9, 2) := by decide +kernel
theorem dX11_hire_120 : decode cX11_hire 120 = .ok (.ifCond .eq 8, 3) := by decide +kernel
theorem dX11_hire_123 : decode cX11_hire 123 = .ok (.iload 7, 2) := by decide +kernel
theorem dX11_hire_125 : decode cX11_hire 125 = .ok (.goto 5, 3) := by decide +kernel
theorem dX11_hire_128 : decode cX11_hire 128 = .ok (.iload 5, 2) := by decide +kernel
theorem dX11_hire_130 : decode cX11_hire 130 = .ok (.istore 5, 2) := by decide +kernel
theorem dX11_hire_132 : decode cX11_hire 132 = .ok (.iload 9, 2) := by decide +kernel
theorem dX11_hire_134 : decode cX11_hire 134 = .ok (.ifCond .eq 10, 3) := by decide +kernel
theorem dX11_hire_137 : decode cX11_hire 137 = .ok (.aload_n 0, 1) := by decide +kernel
theorem dX11_hire_138 : decode cX11_hire 138 = .ok (.getfield 213, 3) := by decide +kernel
theorem dX11_hire_141 : decode cX11_hire 141 = .ok (.goto 5, 3) := by decide +kernel
theorem dX11_hire_144 : decode cX11_hire 144 = .ok (.iload 6, 2) := by decide +kernel
theorem dX11_hire_146 : decode cX11_hire 146 = .ok (.istore 6, 2) := by decide +kernel
theorem dX11_hire_148 : decode cX11_hire 148 = .ok (.iinc 7 1, 3) := by decide +kernel
theorem dX11_hire_151 : decode cX11_hire 151 = .ok (.goto (-95), 3) := by decide +kernel
theorem dX11_hire_154 : decode cX11_hire 154 = .ok (.aload_n 0, 1) := by decide +kernel
theorem dX11_hire_155 : decode cX11_hire 155 = .ok (.getfield 13, 3) := by decide +kernel
theorem dX11_hire_158 : decode cX11_hire 158 = .ok (.iload_n 1, 1) := by decide +kernel
theorem dX11_hire_159 : decode cX11_hire 159 = .ok (.iload_n 3, 1) := by decide +kernel
theorem dX11_hire_160 : decode cX11_hire 160 = .ok (.iastore, 1) := by decide +kernel
theorem dX11_hire_161 : decode cX11_hire 161 = .ok (.aload_n 0, 1) := by decide +kernel
theorem dX11_hire_162 : decode cX11_hire 162 = .ok (.getfield 16, 3) := by decide +kernel
theorem dX11_hire_165 : decode cX11_hire 165 = .ok (.iload_n 1, 1) := by decide +kernel
theorem dX11_hire_166 : decode cX11_hire 166 = .ok (.iload 4, 2) := by decide +kernel
theorem dX11_hire_168 : decode cX11_hire 168 = .ok (.iastore, 1) := by decide +kernel
theorem dX11_hire_169 : decode cX11_hire 169 = .ok (.iload_n 2, 1) := by decide +kernel
theorem dX11_hire_170 : decode cX11_hire 170 = .ok (.ifCond .ne 8, 3) := by decide +kernel
theorem dX11_hire_173 : decode cX11_hire 173 = .ok (.iload 5, 2) := by decide +kernel
theorem dX11_hire_175 : decode cX11_hire 175 = .ok (.goto 5, 3) := by decide +kernel
theorem dX11_hire_178 : decode cX11_hire 178 = .ok (.iload 6, 2) := by decide +kernel
theorem dX11_hire_180 : decode cX11_hire 180 = .ok (.ireturn, 1) := by decide +kernel
theorem dX11_makes_0 : decode cX11_makes 0 = .ok (.iconst 0, 1) := by decide +kernel
theorem dX11_makes_1 : decode cX11_makes 1 = .ok (.istore 4, 2) := by decide +kernel
theorem dX11_makes_3 : decode cX11_makes 3 = .ok (.iload 4, 2) := by decide +kernel
theorem dX11_makes_5 : decode cX11_makes 5 = .ok (.bipush 16, 2) := by decide +kernel
theorem dX11_makes_7 : decode cX11_makes 7 = .ok (.if_icmp .ge 23, 3) := by decide +kernel
theorem dX11_makes_10 : decode cX11_makes 10 = .ok (.aload_n 0, 1) := by decide +kernel
theorem dX11_makes_11 : decode cX11_makes 11 = .ok (.iload_n 1, 1) := by decide +kernel
theorem dX11_makes_12 : decode cX11_makes 12 = .ok (.iload_n 2, 1) := by decide +kernel
theorem dX11_makes_13 : decode cX11_makes 13 = .ok (.iload 4, 2) := by decide +kernel
theorem dX11_makes_15 : decode cX11_makes 15 = .ok (.invokevirtual 198, 3) := by decide +kernel
theorem dX11_makes_18 : decode cX11_makes 18 = .ok (.iload_n 3, 1) := by decide +kernel
theorem dX11_makes_19 : decode cX11_makes 19 = .ok (.if_icmp .ne 5, 3) := by decide +kernel
theorem dX11_makes_22 : decode cX11_makes 22 = .ok (.iconst 1, 1) := by decide +kernel
theorem dX11_makes_23 : decode cX11_makes 23 = .ok (.ireturn, 1) := by decide +kernel
theorem dX11_makes_24 : decode cX11_makes 24 = .ok (.iinc 4 1, 3) := by decide +kernel
theorem dX11_makes_27 : decode cX11_makes 27 = .ok (.goto (-24), 3) := by decide +kernel
theorem dX11_makes_30 : decode cX11_makes 30 = .ok (.iconst 0, 1) := by decide +kernel
theorem dX11_makes_31 : decode cX11_makes 31 = .ok (.ireturn, 1) := by decide +kernel
theorem dX11_isMark_0 : decode cX11_isMark 0 = .ok (.iload_n 2, 1) := by decide +kernel
theorem dX11_isMark_1 : decode cX11_isMark 1 = .ok (.iconst 1, 1) := by decide +kernel
theorem dX11_isMark_2 : decode cX11_isMark 2 = .ok (.sipush 1023, 3) := by decide +kernel
theorem dX11_isMark_5 : decode cX11_isMark 5 = .ok (.invokestatic 84, 3) := by decide +kernel
theorem dX11_isMark_8 : decode cX11_isMark 8 = .ok (.ifCond .eq 19, 3) := by decide +kernel
theorem dX11_isMark_11 : decode cX11_isMark 11 = .ok (.iload_n 2, 1) := by decide +kernel
theorem dX11_isMark_12 : decode cX11_isMark 12 = .ok (.aload_n 0, 1) := by decide +kernel
theorem dX11_isMark_13 : decode cX11_isMark 13 = .ok (.iload_n 1, 1) := by decide +kernel
theorem dX11_isMark_14 : decode cX11_isMark 14 = .ok (.invokevirtual 167, 3) := by decide +kernel
theorem dX11_isMark_17 : decode cX11_isMark 17 = .ok (.iconst (-1), 1) := by decide +kernel
theorem dX11_isMark_18 : decode cX11_isMark 18 = .ok (.ixor, 1) := by decide +kernel
theorem dX11_isMark_19 : decode cX11_isMark 19 = .ok (.iand, 1) := by decide +kernel
theorem dX11_isMark_20 : decode cX11_isMark 20 = .ok (.ifCond .ne 7, 3) := by decide +kernel
theorem dX11_isMark_23 : decode cX11_isMark 23 = .ok (.iconst 1, 1) := by decide +kernel
theorem dX11_isMark_24 : decode cX11_isMark 24 = .ok (.goto 4, 3) := by decide +kernel
theorem dX11_isMark_27 : decode cX11_isMark 27 = .ok (.iconst 0, 1) := by decide +kernel
theorem dX11_isMark_28 : decode cX11_isMark 28 = .ok (.ireturn, 1) := by decide +kernel
theorem dX11_whose_0 : decode cX11_whose 0 = .ok (.aload_n 0, 1) := by decide +kernel
theorem dX11_whose_1 : decode cX11_whose 1 = .ok (.iload_n 1, 1) := by decide +kernel
theorem dX11_whose_2 : decode cX11_whose 2 = .ok (.invokevirtual 182, 3) := by decide +kernel
theorem dX11_whose_5 : decode cX11_whose 5 = .ok (.ifCond .ne 6, 3) := by decide +kernel
theorem dX11_whose_8 : decode cX11_whose 8 = .ok (.bipush (-5), 2) := by decide +kernel
theorem dX11_whose_10 : decode cX11_whose 10 = .ok (.ireturn, 1) := by decide +kernel
theorem dX11_whose_11 : decode cX11_whose 11 = .ok (.aload_n 0, 1) := by decide +kernel
theorem dX11_whose_12 : decode cX11_whose 12 = .ok (.iload_n 1, 1) := by decide +kernel
theorem dX11_whose_13 : decode cX11_whose 13 = .ok (.iload_n 2, 1) := by decide +kernel
theorem dX11_whose_14 : decode cX11_whose 14 = .ok (.invokevirtual 242, 3) := by decide +kernel
theorem dX11_whose_17 : decode cX11_whose 17 = .ok (.ifCond .ne 6, 3) := by decide +kernel
theorem dX11_whose_20 : decode cX11_whose 20 = .ok (.bipush (-7), 2) := by decide +kernel
theorem dX11_whose_22 : decode cX11_whose 22 = .ok (.ireturn, 1) := by decide +kernel
theorem dX11_whose_23 : decode cX11_whose 23 = .ok (.iconst 0, 1) := by decide +kernel
theorem dX11_whose_24 : decode cX11_whose 24 = .ok (.istore_n 3, 1) := by decide +kernel
theorem dX11_whose_25 : decode cX11_whose 25 = .ok (.iconst 0, 1) := by decide +kernel
theorem dX11_whose_26 : decode cX11_whose 26 = .ok (.istore 4, 2) := by decide +kernel
theorem dX11_whose_28 : decode cX11_whose 28 = .ok (.iload 4, 2) := by decide +kernel
theorem dX11_whose_30 : decode cX11_whose 30 = .ok (.aload_n 0, 1) := by decide +kernel
theorem dX11_whose_31 : decode cX11_whose 31 = .ok (.getfield 81, 3) := by decide +kernel
theorem dX11_whose_34 : decode cX11_whose 34 = .ok (.if_icmp .ge 31, 3) := by decide +kernel
theorem dX11_whose_37 : decode cX11_whose 37 = .ok (.iload_n 3, 1) := by decide +kernel
theorem dX11_whose_38 : decode cX11_whose 38 = .ok (.aload_n 0, 1) := by decide +kernel
theorem dX11_whose_39 : decode cX11_whose 39 = .ok (.iload 4, 2) := by decide +kernel
theorem dX11_whose_41 : decode cX11_whose 41 = .ok (.iload_n 1, 1) := by decide +kernel
theorem dX11_whose_42 : decode cX11_whose 42 = .ok (.iload_n 2, 1) := by decide +kernel
theorem dX11_whose_43 : decode cX11_whose 43 = .ok (.invokevirtual 246, 3) := by decide +kernel
theorem dX11_whose_46 : decode cX11_whose 46 = .ok (.ifCond .eq 10, 3) := by decide +kernel
theorem dX11_whose_49 : decode cX11_whose 49 = .ok (.iconst 1, 1) := by decide +kernel
theorem dX11_whose_50 : decode cX11_whose 50 = .ok (.iload 4, 2) := by decide +kernel
theorem dX11_whose_52 : decode cX11_whose 52 = .ok (.ishl, 1) := by decide +kernel
theorem dX11_whose_53 : decode cX11_whose 53 = .ok (.goto 4, 3) := by decide +kernel
theorem dX11_whose_56 : decode cX11_whose 56 = .ok (.iconst 0, 1) := by decide +kernel
theorem dX11_whose_57 : decode cX11_whose 57 = .ok (.ior, 1) := by decide +kernel
theorem dX11_whose_58 : decode cX11_whose 58 = .ok (.istore_n 3, 1) := by decide +kernel
theorem dX11_whose_59 : decode cX11_whose 59 = .ok (.iinc 4 1, 3) := by decide +kernel
theorem dX11_whose_62 : decode cX11_whose 62 = .ok (.goto (-34), 3) := by decide +kernel
theorem dX11_whose_65 : decode cX11_whose 65 = .ok (.iload_n 3, 1) := by decide +kernel
theorem dX11_whose_66 : decode cX11_whose 66 = .ok (.ireturn, 1) := by decide +kernel
theorem dX11_jaws_0 : decode cX11_jaws 0 = .ok (.aload_n 0, 1) := by decide +kernel
theorem dX11_jaws_1 : decode cX11_jaws 1 = .ok (.getfield 19, 3) := by decide +kernel
theorem dX11_jaws_4 : decode cX11_jaws 4 = .ok (.iconst 3, 1) := by decide +kernel
theorem dX11_jaws_5 : decode cX11_jaws 5 = .ok (.iload_n 1, 1) := by decide +kernel
theorem dX11_jaws_6 : decode cX11_jaws 6 = .ok (.imul, 1) := by decide +kernel
theorem dX11_jaws_7 : decode cX11_jaws 7 = .ok (.iaload, 1) := by decide +kernel
theorem dX11_jaws_8 : decode cX11_jaws 8 = .ok (.istore 5, 2) := by decide +kernel
theorem dX11_jaws_10 : decode cX11_jaws 10 = .ok (.iconst 0, 1) := by decide +kernel
theorem dX11_jaws_11 : decode cX11_jaws 11 = .ok (.istore 6, 2) := by decide +kernel
theorem dX11_jaws_13 : decode cX11_jaws 13 = .ok (.iconst (-1), 1) := by decide +kernel
theorem dX11_jaws_14 : decode cX11_jaws 14 = .ok (.istore 7, 2) := by decide +kernel
theorem dX11_jaws_16 : decode cX11_jaws 16 = .ok (.iconst 1, 1) := by decide +kernel
theorem dX11_jaws_17 : decode cX11_jaws 17 = .ok (.istore 8, 2) := by decide +kernel
theorem dX11_jaws_19 : decode cX11_jaws 19 = .ok (.iload 8, 2) := by decide +kernel
theorem dX11_jaws_21 : decode cX11_jaws 21 = .ok (.bipush 63, 2) := by decide +kernel
theorem dX11_jaws_23 : decode cX11_jaws 23 = .ok (.if_icmp .gt 63, 3) := by decide +kernel
theorem dX11_jaws_26 : decode cX11_jaws 26 = .ok (.aload_n 0, 1) := by decide +kernel
theorem dX11_jaws_27 : decode cX11_jaws 27 = .ok (.getfield 19, 3) := by decide +kernel
theorem dX11_jaws_30 : decode cX11_jaws 30 = .ok (.iconst 3, 1) := by decide +kernel
theorem dX11_jaws_31 : decode cX11_jaws 31 = .ok (.iload_n 1, 1) := by decide +kernel
theorem dX11_jaws_32 : decode cX11_jaws 32 = .ok (.imul, 1) := by decide +kernel
theorem dX11_jaws_33 : decode cX11_jaws 33 = .ok (.iload 8, 2) := by decide +kernel
theorem dX11_jaws_35 : decode cX11_jaws 35 = .ok (.iastore, 1) := by decide +kernel
theorem dX11_jaws_36 : decode cX11_jaws 36 = .ok (.aload_n 0, 1) := by decide +kernel
theorem dX11_jaws_37 : decode cX11_jaws 37 = .ok (.iload_n 1, 1) := by decide +kernel
theorem dX11_jaws_38 : decode cX11_jaws 38 = .ok (.iload_n 2, 1) := by decide +kernel
theorem dX11_jaws_39 : decode cX11_jaws 39 = .ok (.iload_n 3, 1) := by decide +kernel
theorem dX11_jaws_40 : decode cX11_jaws 40 = .ok (.invokevirtual 246, 3) := by decide +kernel
theorem dX11_jaws_43 : decode cX11_jaws 43 = .ok (.istore 9, 2) := by decide +kernel
theorem dX11_jaws_45 : decode cX11_jaws 45 = .ok (.iload 6, 2) := by decide +kernel
theorem dX11_jaws_47 : decode cX11_jaws 47 = .ok (.iload 9, 2) := by decide +kernel
theorem dX11_jaws_49 : decode cX11_jaws 49 = .ok (.ifCond .eq 7, 3) := by decide +kernel
theorem dX11_jaws_52 : decode cX11_jaws 52 = .ok (.iconst 1, 1) := by decide +kernel
theorem dX11_jaws_53 : decode cX11_jaws 53 = .ok (.goto 4, 3) := by decide +kernel
theorem dX11_jaws_56 : decode cX11_jaws 56 = .ok (.iconst 0, 1) := by decide +kernel
theorem dX11_jaws_57 : decode cX11_jaws 57 = .ok (.iadd, 1) := by decide +kernel
theorem dX11_jaws_58 : decode cX11_jaws 58 = .ok (.istore 6, 2) := by decide +kernel
theorem dX11_jaws_60 : decode cX11_jaws 60 = .ok (.iload 9, 2) := by decide +kernel
theorem dX11_jaws_62 : decode cX11_jaws 62 = .ok (.ifCond .eq 14, 3) := by decide +kernel
theorem dX11_jaws_65 : decode cX11_jaws 65 = .ok (.iload 7, 2) := by decide +kernel
theorem dX11_jaws_67 : decode cX11_jaws 67 = .ok (.iconst (-1), 1) := by decide +kernel
theorem dX11_jaws_68 : decode cX11_jaws 68 = .ok (.if_icmp .ne 8, 3) := by decide +kernel
theorem dX11_jaws_71 : decode cX11_jaws 71 = .ok (.iload 8, 2) := by decide +kernel
theorem dX11_jaws_73 : decode cX11_jaws 73 = .ok (.goto 5, 3) := by decide +kernel
theorem dX11_jaws_76 : decode cX11_jaws 76 = .ok (.iload 7, 2) := by decide +kernel
theorem dX11_jaws_78 : decode cX11_jaws 78 = .ok (.istore 7, 2) := by decide +kernel
theorem dX11_jaws_80 : decode cX11_jaws 80 = .ok (.iinc 8 1, 3) := by decide +kernel
theorem dX11_jaws_83 : decode cX11_jaws 83 = .ok (.goto (-64), 3) := by decide +kernel
theorem dX11_jaws_86 : decode cX11_jaws 86 = .ok (.aload_n 0, 1) := by decide +kernel
theorem dX11_jaws_87 : decode cX11_jaws 87 = .ok (.getfield 19, 3) := by decide +kernel
theorem dX11_jaws_90 : decode cX11_jaws 90 = .ok (.iconst 3, 1) := by decide +kernel
theorem dX11_jaws_91 : decode cX11_jaws 91 = .ok (.iload_n 1, 1) := by decide +kernel
theorem dX11_jaws_92 : decode cX11_jaws 92 = .ok (.imul, 1) := by decide +kernel
theorem dX11_jaws_93 : decode cX11_jaws 93 = .ok (.iload 5, 2) := by decide +kernel
theorem dX11_jaws_95 : decode cX11_jaws 95 = .ok (.iastore, 1) := by decide +kernel
theorem dX11_jaws_96 : decode cX11_jaws 96 = .ok (.iload 4, 2) := by decide +kernel
theorem dX11_jaws_98 : decode cX11_jaws 98 = .ok (.ifCond .eq 8, 3) := by decide +kernel
theorem dX11_jaws_101 : decode cX11_jaws 101 = .ok (.iload 7, 2) := by decide +kernel
theorem dX11_jaws_103 : decode cX11_jaws 103 = .ok (.goto 5, 3) := by decide +kernel
theorem dX11_jaws_106 : decode cX11_jaws 106 = .ok (.iload 6, 2) := by decide +kernel
theorem dX11_jaws_108 : decode cX11_jaws 108 = .ok (.ireturn, 1) := by decide +kernel
theorem dX11_kinds_0 : decode cX11_kinds 0 = .ok (.aload_n 0, 1) := by decide +kernel
theorem dX11_kinds_1 : decode cX11_kinds 1 = .ok (.iload_n 1, 1) := by decide +kernel
theorem dX11_kinds_2 : decode cX11_kinds 2 = .ok (.invokevirtual 179, 3) := by decide +kernel
theorem dX11_kinds_5 : decode cX11_kinds 5 = .ok (.ifCond .ne 6, 3) := by decide +kernel
theorem dX11_kinds_8 : decode cX11_kinds 8 = .ok (.bipush (-6), 2) := by decide +kernel
theorem dX11_kinds_10 : decode cX11_kinds 10 = .ok (.ireturn, 1) := by decide +kernel
theorem dX11_kinds_11 : decode cX11_kinds 11 = .ok (.aload_n 0, 1) := by decide +kernel
theorem dX11_kinds_12 : decode cX11_kinds 12 = .ok (.iload_n 2, 1) := by decide +kernel
theorem dX11_kinds_13 : decode cX11_kinds 13 = .ok (.invokevirtual 182, 3) := by decide +kernel
theorem dX11_kinds_16 : decode cX11_kinds 16 = .ok (.ifCond .ne 6, 3) := by decide +kernel
theorem dX11_kinds_19 : decode cX11_kinds 19 = .ok (.bipush (-5), 2) := by decide +kernel
theorem dX11_kinds_21 : decode cX11_kinds 21 = .ok (.ireturn, 1) := by decide +kernel
theorem dX11_kinds_22 : decode cX11_kinds 22 = .ok (.aload_n 0, 1) := by decide +kernel
theorem dX11_kinds_23 : decode cX11_kinds 23 = .ok (.iload_n 2, 1) := by decide +kernel
theorem dX11_kinds_24 : decode cX11_kinds 24 = .ok (.iload_n 3, 1) := by decide +kernel
theorem dX11_kinds_25 : decode cX11_kinds 25 = .ok (.invokevirtual 242, 3) := by decide +kernel
theorem dX11_kinds_28 : decode cX11_kinds 28 = .ok (.ifCond .eq 13, 3) := by decide +kernel
theorem dX11_kinds_31 : decode cX11_kinds 31 = .ok (.iload 4, 2) := by decide +kernel
theorem dX11_kinds_33 : decode cX11_kinds 33 = .ok (.iconst 0, 1) := by decide +kernel
theorem dX11_kinds_34 : decode cX11_kinds 34 = .ok (.iconst 3, 1) := by decide +kernel
theorem dX11_kinds_35 : decode cX11_kinds 35 = .ok (.invokestatic 84, 3) := by decide +kernel
theorem dX11_kinds_38 : decode cX11_kinds 38 = .ok (.ifCond .ne 6, 3) := by decide +kernel
theorem dX11_kinds_41 : decode cX11_kinds 41 = .ok (.bipush (-7), 2) := by decide +kernel
theorem dX11_kinds_43 : decode cX11_kinds 43 = .ok (.ireturn, 1) := by decide +kernel
theorem dX11_kinds_44 : decode cX11_kinds 44 = .ok (.iload 4, 2) := by decide +kernel
theorem dX11_kinds_46 : decode cX11_kinds 46 = .ok (.iconst 1, 1) := by decide +kernel
theorem dX11_kinds_47 : decode cX11_kinds 47 = .ok (.if_icmp .le 22, 3) := by decide +kernel
theorem dX11_kinds_50 : decode cX11_kinds 50 = .ok (.aload_n 0, 1) := by decide +kernel
theorem dX11_kinds_51 : decode cX11_kinds 51 = .ok (.iload_n 1, 1) := by decide +kernel
theorem dX11_kinds_52 : decode cX11_kinds 52 = .ok (.iload_n 2, 1) := by decide +kernel
theorem dX11_kinds_53 : decode cX11_kinds 53 = .ok (.iload_n 3, 1) := by decide +kernel
theorem dX11_kinds_54 : decode cX11_kinds 54 = .ok (.iload 4, 2) := by decide +kernel
theorem dX11_kinds_56 : decode cX11_kinds 56 = .ok (.iconst 3, 1) := by decide +kernel
theorem dX11_kinds_57 : decode cX11_kinds 57 = .ok (.if_icmp .ne 7, 3) := by decide +kernel
theorem dX11_kinds_60 : decode cX11_kinds 60 = .ok (.iconst 1, 1) := by decide +kernel
theorem dX11_kinds_61 : decode cX11_kinds 61 = .ok (.goto 4, 3) := by decide +kernel
theorem dX11_kinds_64 : decode cX11_kinds 64 = .ok (.iconst 0, 1) := by decide +kernel
theorem dX11_kinds_65 : decode cX11_kinds 65 = .ok (.invokevirtual 249, 3) := by decide +kernel
theorem dX11_kinds_68 : decode cX11_kinds 68 = .ok (.ireturn, 1) := by decide +kernel
theorem dX11_kinds_69 : decode cX11_kinds 69 = .ok (.aload_n 0, 1) := by decide +kernel
theorem dX11_kinds_70 : decode cX11_kinds 70 = .ok (.getfield 13, 3) := by decide +kernel
theorem dX11_kinds_73 : decode cX11_kinds 73 = .ok (.iload_n 1, 1) := by decide +kernel
theorem dX11_kinds_74 : decode cX11_kinds 74 = .ok (.iaload, 1) := by decide +kernel
theorem dX11_kinds_75 : decode cX11_kinds 75 = .ok (.istore 5, 2) := by decide +kernel
theorem dX11_kinds_77 : decode cX11_kinds 77 = .ok (.aload_n 0, 1) := by decide +kernel
theorem dX11_kinds_78 : decode cX11_kinds 78 = .ok (.getfield 16, 3) := by decide +kernel
theorem dX11_kinds_81 : decode cX11_kinds 81 = .ok (.iload_n 1, 1) := by decide +kernel
theorem dX11_kinds_82 : decode cX11_kinds 82 = .ok (.iaload, 1) := by decide +kernel
theorem dX11_kinds_83 : decode cX11_kinds 83 = .ok (.istore 6, 2) := by decide +kernel
theorem dX11_kinds_85 : decode cX11_kinds 85 = .ok (.iconst 0, 1) := by decide +kernel
theorem dX11_kinds_86 : decode cX11_kinds 86 = .ok (.istore 7, 2) := by decide +kernel
theorem dX11_kinds_88 : decode cX11_kinds 88 = .ok (.iconst 0, 1) := by decide +kernel
theorem dX11_kinds_89 : decode cX11_kinds 89 = .ok (.istore 8, 2) := by decide +kernel
theorem dX11_kinds_91 : decode cX11_kinds 91 = .ok (.iload 8, 2) := by decide +kernel
theorem dX11_kinds_93 : decode cX11_kinds 93 = .ok (.iload 4, 2) := by decide +kernel
theorem dX11_kinds_95 : decode cX11_kinds 95 = .ok (.ifCond .ne 8, 3) := by decide +kernel
theorem dX11_kinds_98 : decode cX11_kinds 98 = .ok (.bipush 6, 2) := by decide +kernel
theorem dX11_kinds_100 : decode cX11_kinds 100 = .ok (.goto 5, 3) := by decide +kernel
theorem dX11_kinds_103 : decode cX11_kinds 103 = .ok (.bipush 10, 2) := by decide +kernel
theorem dX11_kinds_105 : decode cX11_kinds 105 = .ok (.if_icmp .ge 69, 3) := by decide +kernel
theorem dX11_kinds_108 : decode cX11_kinds 108 = .ok (.aload_n 0, 1) := by decide +kernel
theorem dX11_kinds_109 : decode cX11_kinds 109 = .ok (.getfield 13, 3) := by decide +kernel
theorem dX11_kinds_112 : decode cX11_kinds 112 = .ok (.iload_n 1, 1) := by decide +kernel
theorem dX11_kinds_113 : decode cX11_kinds 113 = .ok (.iload 4, 2) := by decide +kernel
theorem dX11_kinds_115 : decode cX11_kinds 115 = .ok (.ifCond .ne 8, 3) := by decide +kernel
theorem dX11_kinds_118 : decode cX11_kinds 118 = .ok (.iload 8, 2) := by decide +kernel
theorem dX11_kinds_120 : decode cX11_kinds 120 = .ok (.goto 5, 3) := by decide +kernel
theorem dX11_kinds_123 : decode cX11_kinds 123 = .ok (.iload 5, 2) := by decide +kernel
theorem dX11_kinds_125 : decode cX11_kinds 125 = .ok (.iastore, 1) := by decide +kernel
theorem dX11_kinds_126 : decode cX11_kinds 126 = .ok (.aload_n 0, 1) := by decide +kernel
theorem dX11_kinds_127 : decode cX11_kinds 127 = .ok (.getfield 16, 3) := by decide +kernel
theorem dX11_kinds_130 : decode cX11_kinds 130 = .ok (.iload_n 1, 1) := by decide +kernel
theorem dX11_kinds_131 : decode cX11_kinds 131 = .ok (.iload 4, 2) := by decide +kernel
theorem dX11_kinds_133 : decode cX11_kinds 133 = .ok (.iconst 1, 1) := by decide +kernel
theorem dX11_kinds_134 : decode cX11_kinds 134 = .ok (.if_icmp .ne 8, 3) := by decide +kernel
theorem dX11_kinds_137 : decode cX11_kinds 137 = .ok (.iload 8, 2) := by decide +kernel
theorem dX11_kinds_139 : decode cX11_kinds 139 = .ok (.goto 5, 3) := by decide +kernel
theorem dX11_kinds_142 : decode cX11_kinds 142 = .ok (.iload 6, 2) := by decide +kernel
theorem dX11_kinds_144 : decode cX11_kinds 144 = .ok (.iastore, 1) := by decide +kernel
theorem dX11_kinds_145 : decode cX11_kinds 145 = .ok (.iload 7, 2) := by decide +kernel
theorem dX11_kinds_147 : decode cX11_kinds 147 = .ok (.aload_n 0, 1) := by decide +kernel
theorem dX11_kinds_148 : decode cX11_kinds 148 = .ok (.iload_n 1, 1) := by decide +kernel
theorem dX11_kinds_149 : decode cX11_kinds 149 = .ok (.iload_n 2, 1) := by decide +kernel
theorem dX11_kinds_150 : decode cX11_kinds 150 = .ok (.iload_n 3, 1) := by decide +kernel
theorem dX11_kinds_151 : decode cX11_kinds 151 = .ok (.invokevirtual 246, 3) := by decide +kernel
theorem dX11_kinds_154 : decode cX11_kinds 154 = .ok (.ifCond .eq 10, 3) := by decide +kernel
theorem dX11_kinds_157 : decode cX11_kinds 157 = .ok (.iconst 1, 1) := by decide +kernel
theorem dX11_kinds_158 : decode cX11_kinds 158 = .ok (.iload 8, 2) := by decide +kernel
theorem dX11_kinds_160 : decode cX11_kinds 160 = .ok (.ishl, 1) := by decide +kernel
theorem dX11_kinds_161 : decode cX11_kinds 161 = .ok (.goto 4, 3) := by decide +kernel
theorem dX11_kinds_164 : decode cX11_kinds 164 = .ok (.iconst 0, 1) := by decide +kernel
theorem dX11_kinds_165 : decode cX11_kinds 165 = .ok (.ior, 1) := by decide +kernel
theorem dX11_kinds_166 : decode cX11_kinds 166 = .ok (.istore 7, 2) := by decide +kernel
theorem dX11_kinds_168 : decode cX11_kinds 168 = .ok (.iinc 8 1, 3) := by decide +kernel
theorem dX11_kinds_171 : decode cX11_kinds 171 = .ok (.goto (-80), 3) := by decide +kernel
theorem dX11_kinds_174 : decode cX11_kinds 174 = .ok (.aload_n 0, 1) := by decide +kernel
theorem dX11_kinds_175 : decode cX11_kinds 175 = .ok (.getfield 13, 3) := by decide +kernel
theorem dX11_kinds_178 : decode cX11_kinds 178 = .ok (.iload_n 1, 1) := by decide +kernel
theorem dX11_kinds_179 : decode cX11_kinds 179 = .ok (.iload 5, 2) := by decide +kernel
theorem dX11_kinds_181 : decode cX11_kinds 181 = .ok (.iastore, 1) := by decide +kernel
theorem dX11_kinds_182 : decode cX11_kinds 182 = .ok (.aload_n 0, 1) := by decide +kernel
theorem dX11_kinds_183 : decode cX11_kinds 183 = .ok (.getfield 16, 3) := by decide +kernel
theorem dX11_kinds_186 : decode cX11_kinds 186 = .ok (.iload_n 1, 1) := by decide +kernel
theorem dX11_kinds_187 : decode cX11_kinds 187 = .ok (.iload 6, 2) := by decide +kernel
theorem dX11_kinds_189 : decode cX11_kinds 189 = .ok (.iastore, 1) := by decide +kernel
theorem dX11_kinds_190 : decode cX11_kinds 190 = .ok (.iload 7, 2) := by decide +kernel
theorem dX11_kinds_192 : decode cX11_kinds 192 = .ok (.ireturn, 1) := by decide +kernel
theorem dX11_sheetWrong_0 : decode cX11_sheetWrong 0 = .ok (.iload_n 1, 1) := by decide +kernel
theorem dX11_sheetWrong_1 : decode cX11_sheetWrong 1 = .ok (.iconst 0, 1) := by decide +kernel
theorem dX11_sheetWrong_2 : decode cX11_sheetWrong 2 = .ok (.iconst 3, 1) := by decide +kernel
theorem dX11_sheetWrong_3 : decode cX11_sheetWrong 3 = .ok (.invokestatic 84, 3) := by decide +kernel
theorem dX11_sheetWrong_6 : decode cX11_sheetWrong 6 = .ok (.ifCond .ne 6, 3) := by decide +kernel
theorem dX11_sheetWrong_9 : decode cX11_sheetWrong 9 = .ok (.bipush (-2), 2) := by decide +kernel
theorem dX11_sheetWrong_11 : decode cX11_sheetWrong 11 = .ok (.ireturn, 1) := by decide +kernel
theorem dX11_sheetWrong_12 : decode cX11_sheetWrong 12 = .ok (.aload_n 0, 1) := by decide +kernel
theorem dX11_sheetWrong_13 : decode cX11_sheetWrong 13 = .ok (.getfield 40, 3) := by decide +kernel
theorem dX11_sheetWrong_16 : decode cX11_sheetWrong 16 = .ok (.iload_n 1, 1) := by decide +kernel
theorem dX11_sheetWrong_17 : decode cX11_sheetWrong 17 = .ok (.iaload, 1) := by decide +kernel
theorem dX11_sheetWrong_18 : decode cX11_sheetWrong 18 = .ok (.iconst (-1), 1) := by decide +kernel
theorem dX11_sheetWrong_19 : decode cX11_sheetWrong 19 = .ok (.if_icmp .ne 6, 3) := by decide +kernel
theorem dX11_sheetWrong_22 : decode cX11_sheetWrong 22 = .ok (.bipush (-11), 2) := by decide +kernel
theorem dX11_sheetWrong_24 : decode cX11_sheetWrong 24 = .ok (.ireturn, 1) := by decide +kernel
theorem dX11_sheetWrong_25 : decode cX11_sheetWrong 25 = .ok (.aload_n 0, 1) := by decide +kernel
theorem dX11_sheetWrong_26 : decode cX11_sheetWrong 26 = .ok (.getfield 43, 3) := by decide +kernel
theorem dX11_sheetWrong_29 : decode cX11_sheetWrong 29 = .ok (.iload_n 1, 1) := by decide +kernel
theorem dX11_sheetWrong_30 : decode cX11_sheetWrong 30 = .ok (.iaload, 1) := by decide +kernel
theorem dX11_sheetWrong_31 : decode cX11_sheetWrong 31 = .ok (.iconst 3, 1) := by decide +kernel
theorem dX11_sheetWrong_32 : decode cX11_sheetWrong 32 = .ok (.irem, 1) := by decide +kernel
theorem dX11_sheetWrong_33 : decode cX11_sheetWrong 33 = .ok (.ifCond .ne 7, 3) := by decide +kernel
theorem dX11_sheetWrong_36 : decode cX11_sheetWrong 36 = .ok (.iconst 1, 1) := by decide +kernel
theorem dX11_sheetWrong_37 : decode cX11_sheetWrong 37 = .ok (.goto 4, 3) := by decide +kernel
theorem dX11_sheetWrong_40 : decode cX11_sheetWrong 40 = .ok (.iconst 0, 1) := by decide +kernel
theorem dX11_sheetWrong_41 : decode cX11_sheetWrong 41 = .ok (.istore_n 2, 1) := by decide +kernel
theorem dX11_sheetWrong_42 : decode cX11_sheetWrong 42 = .ok (.iconst 0, 1) := by decide +kernel
theorem dX11_sheetWrong_43 : decode cX11_sheetWrong 43 = .ok (.istore_n 3, 1) := by decide +kernel
theorem dX11_sheetWrong_44 : decode cX11_sheetWrong 44 = .ok (.iload_n 3, 1) := by decide +kernel
theorem dX11_sheetWrong_45 : decode cX11_sheetWrong 45 = .ok (.iconst 2, 1) := by decide +kernel
theorem dX11_sheetWrong_46 : decode cX11_sheetWrong 46 = .ok (.iadd, 1) := by decide +kernel
theorem dX11_sheetWrong_47 : decode cX11_sheetWrong 47 = .ok (.aload_n 0, 1) := by decide +kernel
theorem dX11_sheetWrong_48 : decode cX11_sheetWrong 48 = .ok (.getfield 43, 3) := by decide +kernel
theorem dX11_sheetWrong_51 : decode cX11_sheetWrong 51 = .ok (.iload_n 1, 1) := by decide +kernel
theorem dX11_sheetWrong_52 : decode cX11_sheetWrong 52 = .ok (.iaload, 1) := by decide +kernel
theorem dX11_sheetWrong_53 : decode cX11_sheetWrong 53 = .ok (.if_icmp .ge 70, 3) := by decide +kernel
theorem dX11_sheetWrong_56 : decode cX11_sheetWrong 56 = .ok (.bipush 40, 2) := by decide +kernel
theorem dX11_sheetWrong_58 : decode cX11_sheetWrong 58 = .ok (.iload_n 1, 1) := by decide +kernel
theorem dX11_sheetWrong_59 : decode cX11_sheetWrong 59 = .ok (.imul, 1) := by decide +kernel
theorem dX11_sheetWrong_60 : decode cX11_sheetWrong 60 = .ok (.iload_n 3, 1) := by decide +kernel
theorem dX11_sheetWrong_61 : decode cX11_sheetWrong 61 = .ok (.iadd, 1) := by decide +kernel
theorem dX11_sheetWrong_62 : decode cX11_sheetWrong 62 = .ok (.istore 4, 2) := by decide +kernel
theorem dX11_sheetWrong_64 : decode cX11_sheetWrong 64 = .ok (.iload_n 2, 1) := by decide +kernel
theorem dX11_sheetWrong_65 : decode cX11_sheetWrong 65 = .ok (.aload_n 0, 1) := by decide +kernel
theorem dX11_sheetWrong_66 : decode cX11_sheetWrong 66 = .ok (.aload_n 0, 1) := by decide +kernel
theorem dX11_sheetWrong_67 : decode cX11_sheetWrong 67 = .ok (.getfield 46, 3) := by decide +kernel
theorem dX11_sheetWrong_70 : decode cX11_sheetWrong 70 = .ok (.iload 4, 2) := by decide +kernel
theorem dX11_sheetWrong_72 : decode cX11_sheetWrong 72 = .ok (.iaload, 1) := by decide +kernel
theorem dX11_sheetWrong_73 : decode cX11_sheetWrong 73 = .ok (.invokevirtual 179, 3) := by decide +kernel
theorem dX11_sheetWrong_76 : decode cX11_sheetWrong 76 = .ok (.ifCond .eq 38, 3) := by decide +kernel
theorem dX11_sheetWrong_79 : decode cX11_sheetWrong 79 = .ok (.aload_n 0, 1) := by decide +kernel
theorem dX11_sheetWrong_80 : decode cX11_sheetWrong 80 = .ok (.aload_n 0, 1) := by decide +kernel
theorem dX11_sheetWrong_81 : decode cX11_sheetWrong 81 = .ok (.getfield 46, 3) := by decide +kernel
theorem dX11_sheetWrong_84 : decode cX11_sheetWrong 84 = .ok (.iload 4, 2) := by decide +kernel
theorem dX11_sheetWrong_86 : decode cX11_sheetWrong 86 = .ok (.iconst 1, 1) := by decide +kernel
theorem dX11_sheetWrong_87 : decode cX11_sheetWrong 87 = .ok (.iadd, 1) := by decide +kernel
theorem dX11_sheetWrong_88 : decode cX11_sheetWrong 88 = .ok (.iaload, 1) := by decide +kernel
theorem dX11_sheetWrong_89 : decode cX11_sheetWrong 89 = .ok (.invokevirtual 182, 3) := by decide +kernel
theorem dX11_sheetWrong_92 : decode cX11_sheetWrong 92 = .ok (.ifCond .eq 22, 3) := by decide +kernel
theorem dX11_sheetWrong_95 : decode cX11_sheetWrong 95 = .ok (.aload_n 0, 1) := by decide +kernel
theorem dX11_sheetWrong_96 : decode cX11_sheetWrong 96 = .ok (.getfield 46, 3) := by decide +kernel
theorem dX11_sheetWrong_99 : decode cX11_sheetWrong 99 = .ok (.iload 4, 2) := by decide +kernel
theorem dX11_sheetWrong_101 : decode cX11_sheetWrong 101 = .ok (.iconst 2, 1) := by decide +kernel
theorem dX11_sheetWrong_102 : decode cX11_sheetWrong 102 = .ok (.iadd, 1) := by decide +kernel
theorem dX11_sheetWrong_103 : decode cX11_sheetWrong 103 = .ok (.iaload, 1) := by decide +kernel
theorem dX11_sheetWrong_104 : decode cX11_sheetWrong 104 = .ok (.invokestatic 204, 3) := by decide +kernel
theorem dX11_sheetWrong_107 : decode cX11_sheetWrong 107 = .ok (.ifCond .eq 7, 3) := by decide +kernel
theorem dX11_sheetWrong_110 : decode cX11_sheetWrong 110 = .ok (.iconst 1, 1) := by decide +kernel
theorem dX11_sheetWrong_111 : decode cX11_sheetWrong 111 = .ok (.goto 4, 3) := by decide +kernel
theorem dX11_sheetWrong_114 : decode cX11_sheetWrong 114 = .ok (.iconst 0, 1) := by decide +kernel
theorem dX11_sheetWrong_115 : decode cX11_sheetWrong 115 = .ok (.iand, 1) := by decide +kernel
theorem dX11_sheetWrong_116 : decode cX11_sheetWrong 116 = .ok (.istore_n 2, 1) := by decide +kernel
theorem dX11_sheetWrong_117 : decode cX11_sheetWrong 117 = .ok (.iinc 3 3, 3) := by decide +kernel
theorem dX11_sheetWrong_120 : decode cX11_sheetWrong 120 = .ok (.goto (-76), 3) := by decide +kernel
theorem dX11_sheetWrong_123 : decode cX11_sheetWrong 123 = .ok (.iload_n 2, 1) := by decide +kernel
theorem dX11_sheetWrong_124 : decode cX11_sheetWrong 124 = .ok (.ifCond .eq 7, 3) := by decide +kernel
theorem dX11_sheetWrong_127 : decode cX11_sheetWrong 127 = .ok (.iconst 0, 1) := by decide +kernel
theorem dX11_sheetWrong_128 : decode cX11_sheetWrong 128 = .ok (.goto 5, 3) := by decide +kernel
theorem dX11_sheetWrong_131 : decode cX11_sheetWrong 131 = .ok (.bipush (-2), 2) := by decide +kernel
theorem dX11_sheetWrong_133 : decode cX11_sheetWrong 133 = .ok (.ireturn, 1) := by decide +kernel
theorem dX11_bitesBy_0 : decode cX11_bitesBy 0 = .ok (.iconst 0, 1) := by decide +kernel
theorem dX11_bitesBy_1 : decode cX11_bitesBy 1 = .ok (.istore_n 2, 1) := by decide +kernel
theorem dX11_bitesBy_2 : decode cX11_bitesBy 2 = .ok (.iload_n 2, 1) := by decide +kernel
theorem dX11_bitesBy_3 : decode cX11_bitesBy 3 = .ok (.aload_n 0, 1) := by decide +kernel
theorem dX11_bitesBy_4 : decode cX11_bitesBy 4 = .ok (.getfield 43, 3) := by decide +kernel
theorem dX11_bitesBy_7 : decode cX11_bitesBy 7 = .ok (.iload_n 1, 1) := by decide +kernel
theorem dX11_bitesBy_8 : decode cX11_bitesBy 8 = .ok (.iaload, 1) := by decide +kernel
theorem dX11_bitesBy_9 : decode cX11_bitesBy 9 = .ok (.iconst 3, 1) := by decide +kernel
theorem dX11_bitesBy_10 : decode cX11_bitesBy 10 = .ok (.idiv, 1) := by decide +kernel
theorem dX11_bitesBy_11 : decode cX11_bitesBy 11 = .ok (.if_icmp .ge 76, 3) := by decide +kernel
theorem dX11_bitesBy_14 : decode cX11_bitesBy 14 = .ok (.bipush 40, 2) := by decide +kernel
theorem dX11_bitesBy_16 : decode cX11_bitesBy 16 = .ok (.iload_n 1, 1) := by decide +kernel
theorem dX11_bitesBy_17 : decode cX11_bitesBy 17 = .ok (.imul, 1) := by decide +kernel
theorem dX11_bitesBy_18 : decode cX11_bitesBy 18 = .ok (.iconst 3, 1) := by decide +kernel
theorem dX11_bitesBy_19 : decode cX11_bitesBy 19 = .ok (.iload_n 2, 1) := by decide +kernel
theorem dX11_bitesBy_20 : decode cX11_bitesBy 20 = .ok (.imul, 1) := by decide +kernel
theorem dX11_bitesBy_21 : decode cX11_bitesBy 21 = .ok (.iadd, 1) := by decide +kernel
theorem dX11_bitesBy_22 : decode cX11_bitesBy 22 = .ok (.istore_n 3, 1) := by decide +kernel
theorem dX11_bitesBy_23 : decode cX11_bitesBy 23 = .ok (.aload_n 0, 1) := by decide +kernel
theorem dX11_bitesBy_24 : decode cX11_bitesBy 24 = .ok (.aload_n 0, 1) := by decide +kernel
theorem dX11_bitesBy_25 : decode cX11_bitesBy 25 = .ok (.getfield 46, 3) := by decide +kernel
theorem dX11_bitesBy_28 : decode cX11_bitesBy 28 = .ok (.iload_n 3, 1) := by decide +kernel
theorem dX11_bitesBy_29 : decode cX11_bitesBy 29 = .ok (.iaload, 1) := by decide +kernel
theorem dX11_bitesBy_30 : decode cX11_bitesBy 30 = .ok (.aload_n 0, 1) := by decide +kernel
theorem dX11_bitesBy_31 : decode cX11_bitesBy 31 = .ok (.getfield 46, 3) := by decide +kernel
theorem dX11_bitesBy_34 : decode cX11_bitesBy 34 = .ok (.iload_n 3, 1) := by decide +kernel
theorem dX11_bitesBy_35 : decode cX11_bitesBy 35 = .ok (.iconst 1, 1) := by decide +kernel
theorem dX11_bitesBy_36 : decode cX11_bitesBy 36 = .ok (.iadd, 1) := by decide +kernel
theorem dX11_bitesBy_37 : decode cX11_bitesBy 37 = .ok (.iaload, 1) := by decide +kernel
theorem dX11_bitesBy_38 : decode cX11_bitesBy 38 = .ok (.aload_n 0, 1) := by decide +kernel
theorem dX11_bitesBy_39 : decode cX11_bitesBy 39 = .ok (.getfield 46, 3) := by decide +kernel
theorem dX11_bitesBy_42 : decode cX11_bitesBy 42 = .ok (.iload_n 3, 1) := by decide +kernel
theorem dX11_bitesBy_43 : decode cX11_bitesBy 43 = .ok (.iconst 2, 1) := by decide +kernel
theorem dX11_bitesBy_44 : decode cX11_bitesBy 44 = .ok (.iadd, 1) := by decide +kernel
theorem dX11_bitesBy_45 : decode cX11_bitesBy 45 = .ok (.iaload, 1) := by decide +kernel
theorem dX11_bitesBy_46 : decode cX11_bitesBy 46 = .ok (.invokevirtual 216, 3) := by decide +kernel
theorem dX11_bitesBy_49 : decode cX11_bitesBy 49 = .ok (.ifCond .ne 5, 3) := by decide +kernel
theorem dX11_bitesBy_52 : decode cX11_bitesBy 52 = .ok (.iload_n 2, 1) := by decide +kernel
theorem dX11_bitesBy_53 : decode cX11_bitesBy 53 = .ok (.ireturn, 1) := by decide +kernel
theorem dX11_bitesBy_54 : decode cX11_bitesBy 54 = .ok (.aload_n 0, 1) := by decide +kernel
theorem dX11_bitesBy_55 : decode cX11_bitesBy 55 = .ok (.aload_n 0, 1) := by decide +kernel
theorem dX11_bitesBy_56 : decode cX11_bitesBy 56 = .ok (.getfield 46, 3) := by decide +kernel
theorem dX11_bitesBy_59 : decode cX11_bitesBy 59 = .ok (.iload_n 3, 1) := by decide +kernel
theorem dX11_bitesBy_60 : decode cX11_bitesBy 60 = .ok (.iaload, 1) := by decide +kernel
theorem dX11_bitesBy_61 : decode cX11_bitesBy 61 = .ok (.aload_n 0, 1) := by decide +kernel
theorem dX11_bitesBy_62 : decode cX11_bitesBy 62 = .ok (.getfield 46, 3) := by decide +kernel
theorem dX11_bitesBy_65 : decode cX11_bitesBy 65 = .ok (.iload_n 3, 1) := by decide +kernel
theorem dX11_bitesBy_66 : decode cX11_bitesBy 66 = .ok (.iconst 1, 1) := by decide +kernel
theorem dX11_bitesBy_67 : decode cX11_bitesBy 67 = .ok (.iadd, 1) := by decide +kernel
theorem dX11_bitesBy_68 : decode cX11_bitesBy 68 = .ok (.iaload, 1) := by decide +kernel
theorem dX11_bitesBy_69 : decode cX11_bitesBy 69 = .ok (.aload_n 0, 1) := by decide +kernel
theorem dX11_bitesBy_70 : decode cX11_bitesBy 70 = .ok (.getfield 46, 3) := by decide +kernel
theorem dX11_bitesBy_73 : decode cX11_bitesBy 73 = .ok (.iload_n 3, 1) := by decide +kernel
theorem dX11_bitesBy_74 : decode cX11_bitesBy 74 = .ok (.iconst 2, 1) := by decide +kernel
theorem dX11_bitesBy_75 : decode cX11_bitesBy 75 = .ok (.iadd, 1) := by decide +kernel
theorem dX11_bitesBy_76 : decode cX11_bitesBy 76 = .ok (.iaload, 1) := by decide +kernel
theorem dX11_bitesBy_77 : decode cX11_bitesBy 77 = .ok (.invokevirtual 210, 3) := by decide +kernel
theorem dX11_bitesBy_80 : decode cX11_bitesBy 80 = .ok (.pop, 1) := by decide +kernel
theorem dX11_bitesBy_81 : decode cX11_bitesBy 81 = .ok (.iinc 2 1, 3) := by decide +kernel
theorem dX11_bitesBy_84 : decode cX11_bitesBy 84 = .ok (.goto (-82), 3) := by decide +kernel
theorem dX11_bitesBy_87 : decode cX11_bitesBy 87 = .ok (.iconst (-1), 1) := by decide +kernel
theorem dX11_bitesBy_88 : decode cX11_bitesBy 88 = .ok (.ireturn, 1) := by decide +kernel
theorem dX11_firstWrong_0 : decode cX11_firstWrong 0 = .ok (.aload_n 0, 1) := by decide +kernel
theorem dX11_firstWrong_1 : decode cX11_firstWrong 1 = .ok (.invokevirtual 222, 3) := by decide +kernel
theorem dX11_firstWrong_4 : decode cX11_firstWrong 4 = .ok (.aload_n 0, 1) := by decide +kernel
theorem dX11_firstWrong_5 : decode cX11_firstWrong 5 = .ok (.iload_n 1, 1) := by decide +kernel
theorem dX11_firstWrong_6 : decode cX11_firstWrong 6 = .ok (.invokevirtual 253, 3) := by decide +kernel
theorem dX11_firstWrong_9 : decode cX11_firstWrong 9 = .ok (.istore_n 2, 1) := by decide +kernel
theorem dX11_firstWrong_10 : decode cX11_firstWrong 10 = .ok (.aload_n 0, 1) := by decide +kernel
theorem dX11_firstWrong_11 : decode cX11_firstWrong 11 = .ok (.invokevirtual 225, 3) := by decide +kernel
theorem dX11_firstWrong_14 : decode cX11_firstWrong 14 = .ok (.iload_n 2, 1) := by decide +kernel
theorem dX11_firstWrong_15 : decode cX11_firstWrong 15 = .ok (.ireturn, 1) := by decide +kernel
theorem dX11_judge_0 : decode cX11_judge 0 = .ok (.aload_n 0, 1) := by decide +kernel
theorem dX11_judge_1 : decode cX11_judge 1 = .ok (.iload_n 1, 1) := by decide +kernel
theorem dX11_judge_2 : decode cX11_judge 2 = .ok (.invokevirtual 256, 3) := by decide +kernel
theorem dX11_judge_5 : decode cX11_judge 5 = .ok (.istore_n 2, 1) := by decide +kernel
theorem dX11_judge_6 : decode cX11_judge 6 = .ok (.iload_n 2, 1) := by decide +kernel
theorem dX11_judge_7 : decode cX11_judge 7 = .ok (.ifCond .ne 11, 3) := by decide +kernel
theorem dX11_judge_10 : decode cX11_judge 10 = .ok (.aload_n 0, 1) := by decide +kernel
theorem dX11_judge_11 : decode cX11_judge 11 = .ok (.iload_n 1, 1) := by decide +kernel
theorem dX11_judge_12 : decode cX11_judge 12 = .ok (.invokevirtual 259, 3) := by decide +kernel
theorem dX11_judge_15 : decode cX11_judge 15 = .ok (.goto 4, 3) := by decide +kernel
theorem dX11_judge_18 : decode cX11_judge 18 = .ok (.iload_n 2, 1) := by decide +kernel
theorem dX11_judge_19 : decode cX11_judge 19 = .ok (.ireturn, 1) := by decide +kernel
theorem dX11_ends_0 : decode cX11_ends 0 = .ok (.aload_n 0, 1) := by decide +kernel
theorem dX11_ends_1 : decode cX11_ends 1 = .ok (.iload_n 1, 1) := by decide +kernel
theorem dX11_ends_2 : decode cX11_ends 2 = .ok (.invokevirtual 256, 3) := by decide +kernel
theorem dX11_ends_5 : decode cX11_ends 5 = .ok (.istore 4, 2) := by decide +kernel
theorem dX11_ends_7 : decode cX11_ends 7 = .ok (.iload 4, 2) := by decide +kernel
theorem dX11_ends_9 : decode cX11_ends 9 = .ok (.ifCond .eq 6, 3) := by decide +kernel
theorem dX11_ends_12 : decode cX11_ends 12 = .ok (.iload 4, 2) := by decide +kernel
theorem dX11_ends_14 : decode cX11_ends 14 = .ok (.ireturn, 1) := by decide +kernel
theorem dX11_ends_15 : decode cX11_ends 15 = .ok (.iload_n 3, 1) := by decide +kernel
theorem dX11_ends_16 : decode cX11_ends 16 = .ok (.iconst 0, 1) := by decide +kernel
theorem dX11_ends_17 : decode cX11_ends 17 = .ok (.iconst 2, 1) := by decide +kernel
theorem dX11_ends_18 : decode cX11_ends 18 = .ok (.invokestatic 84, 3) := by decide +kernel
theorem dX11_ends_21 : decode cX11_ends 21 = .ok (.ifCond .ne 6, 3) := by decide +kernel
theorem dX11_ends_24 : decode cX11_ends 24 = .ok (.bipush (-7), 2) := by decide +kernel
theorem dX11_ends_26 : decode cX11_ends 26 = .ok (.ireturn, 1) := by decide +kernel
theorem dX11_ends_27 : decode cX11_ends 27 = .ok (.iload_n 3, 1) := by decide +kernel
theorem dX11_ends_28 : decode cX11_ends 28 = .ok (.iconst 2, 1) := by decide +kernel
theorem dX11_ends_29 : decode cX11_ends 29 = .ok (.if_icmp .ge 14, 3) := by decide +kernel
theorem dX11_ends_32 : decode cX11_ends 32 = .ok (.aload_n 0, 1) := by decide +kernel
theorem dX11_ends_33 : decode cX11_ends 33 = .ok (.iload_n 2, 1) := by decide +kernel
theorem dX11_ends_34 : decode cX11_ends 34 = .ok (.invokevirtual 179, 3) := by decide +kernel
theorem dX11_ends_37 : decode cX11_ends 37 = .ok (.ifCond .ne 17, 3) := by decide +kernel
theorem dX11_ends_40 : decode cX11_ends 40 = .ok (.goto 11, 3) := by decide +kernel
theorem dX11_ends_43 : decode cX11_ends 43 = .ok (.aload_n 0, 1) := by decide +kernel
theorem dX11_ends_44 : decode cX11_ends 44 = .ok (.iload_n 2, 1) := by decide +kernel
theorem dX11_ends_45 : decode cX11_ends 45 = .ok (.invokevirtual 182, 3) := by decide +kernel
theorem dX11_ends_48 : decode cX11_ends 48 = .ok (.ifCond .ne 6, 3) := by decide +kernel
theorem dX11_ends_51 : decode cX11_ends 51 = .ok (.bipush (-5), 2) := by decide +kernel
theorem dX11_ends_53 : decode cX11_ends 53 = .ok (.ireturn, 1) := by decide +kernel
theorem dX11_ends_54 : decode cX11_ends 54 = .ok (.aload_n 0, 1) := by decide +kernel
theorem dX11_ends_55 : decode cX11_ends 55 = .ok (.invokevirtual 222, 3) := by decide +kernel
theorem dX11_ends_58 : decode cX11_ends 58 = .ok (.aload_n 0, 1) := by decide +kernel
theorem dX11_ends_59 : decode cX11_ends 59 = .ok (.iload_n 1, 1) := by decide +kernel
theorem dX11_ends_60 : decode cX11_ends 60 = .ok (.invokevirtual 253, 3) := by decide +kernel
theorem dX11_ends_63 : decode cX11_ends 63 = .ok (.pop, 1) := by decide +kernel
theorem dX11_ends_64 : decode cX11_ends 64 = .ok (.iload_n 3, 1) := by decide +kernel
theorem dX11_ends_65 : decode cX11_ends 65 = .ok (.ifCond .ne 21, 3) := by decide +kernel
theorem dX11_ends_68 : decode cX11_ends 68 = .ok (.aload_n 0, 1) := by decide +kernel
theorem dX11_ends_69 : decode cX11_ends 69 = .ok (.getfield 19, 3) := by decide +kernel
theorem dX11_ends_72 : decode cX11_ends 72 = .ok (.iconst 3, 1) := by decide +kernel
theorem dX11_ends_73 : decode cX11_ends 73 = .ok (.iload_n 2, 1) := by decide +kernel
theorem dX11_ends_74 : decode cX11_ends 74 = .ok (.iconst 0, 1) := by decide +kernel
theorem dX11_ends_75 : decode cX11_ends 75 = .ok (.iconst 4, 1) := by decide +kernel
theorem dX11_ends_76 : decode cX11_ends 76 = .ok (.invokestatic 176, 3) := by decide +kernel
theorem dX11_ends_79 : decode cX11_ends 79 = .ok (.imul, 1) := by decide +kernel
theorem dX11_ends_80 : decode cX11_ends 80 = .ok (.iconst 2, 1) := by decide +kernel
theorem dX11_ends_81 : decode cX11_ends 81 = .ok (.iadd, 1) := by decide +kernel
theorem dX11_ends_82 : decode cX11_ends 82 = .ok (.iaload, 1) := by decide +kernel
theorem dX11_ends_83 : decode cX11_ends 83 = .ok (.goto 31, 3) := by decide +kernel
theorem dX11_ends_86 : decode cX11_ends 86 = .ok (.iload_n 3, 1) := by decide +kernel
theorem dX11_ends_87 : decode cX11_ends 87 = .ok (.iconst 1, 1) := by decide +kernel
theorem dX11_ends_88 : decode cX11_ends 88 = .ok (.if_icmp .ne 21, 3) := by decide +kernel
theorem dX11_ends_91 : decode cX11_ends 91 = .ok (.aload_n 0, 1) := by decide +kernel
theorem dX11_ends_92 : decode cX11_ends 92 = .ok (.getfield 19, 3) := by decide +kernel
theorem dX11_ends_95 : decode cX11_ends 95 = .ok (.iconst 3, 1) := by decide +kernel
theorem dX11_ends_96 : decode cX11_ends 96 = .ok (.iload_n 2, 1) := by decide +kernel
theorem dX11_ends_97 : decode cX11_ends 97 = .ok (.iconst 0, 1) := by decide +kernel
theorem dX11_ends_98 : decode cX11_ends 98 = .ok (.iconst 4, 1) := by decide +kernel
theorem dX11_ends_99 : decode cX11_ends 99 = .ok (.invokestatic 176, 3) := by decide +kernel
theorem dX11_ends_102 : decode cX11_ends 102 = .ok (.imul, 1) := by decide +kernel
theorem dX11_ends_103 : decode cX11_ends 103 = .ok (.iconst 1, 1) := by decide +kernel
theorem dX11_ends_104 : decode cX11_ends 104 = .ok (.iadd, 1) := by decide +kernel
theorem dX11_ends_105 : decode cX11_ends 105 = .ok (.iaload, 1) := by decide +kernel
theorem dX11_ends_106 : decode cX11_ends 106 = .ok (.goto 8, 3) := by decide +kernel
theorem dX11_ends_109 : decode cX11_ends 109 = .ok (.aload_n 0, 1) := by decide +kernel
theorem dX11_ends_110 : decode cX11_ends 110 = .ok (.iload_n 2, 1) := by decide +kernel
theorem dX11_ends_111 : decode cX11_ends 111 = .ok (.invokevirtual 167, 3) := by decide +kernel
theorem dX11_ends_114 : decode cX11_ends 114 = .ok (.istore 5, 2) := by decide +kernel
theorem dX11_ends_116 : decode cX11_ends 116 = .ok (.aload_n 0, 1) := by decide +kernel
theorem dX11_ends_117 : decode cX11_ends 117 = .ok (.invokevirtual 225, 3) := by decide +kernel
theorem dX11_ends_120 : decode cX11_ends 120 = .ok (.iload 5, 2) := by decide +kernel
theorem dX11_ends_122 : decode cX11_ends 122 = .ok (.ireturn, 1) := by decide +kernel
theorem dX11_laws_0 : decode cX11_laws 0 = .ok (.aload_n 0, 1) := by decide +kernel
theorem dX11_laws_1 : decode cX11_laws 1 = .ok (.iload_n 1, 1) := by decide +kernel
theorem dX11_laws_2 : decode cX11_laws 2 = .ok (.invokevirtual 256, 3) := by decide +kernel
theorem dX11_laws_5 : decode cX11_laws 5 = .ok (.istore_n 2, 1) := by decide +kernel
theorem dX11_laws_6 : decode cX11_laws 6 = .ok (.iload_n 2, 1) := by decide +kernel
theorem dX11_laws_7 : decode cX11_laws 7 = .ok (.ifCond .eq 5, 3) := by decide +kernel
theorem dX11_laws_10 : decode cX11_laws 10 = .ok (.iload_n 2, 1) := by decide +kernel
theorem dX11_laws_11 : decode cX11_laws 11 = .ok (.ireturn, 1) := by decide +kernel
theorem dX11_laws_12 : decode cX11_laws 12 = .ok (.aload_n 0, 1) := by decide +kernel
theorem dX11_laws_13 : decode cX11_laws 13 = .ok (.getfield 97, 3) := by decide +kernel
theorem dX11_laws_16 : decode cX11_laws 16 = .ok (.istore_n 3, 1) := by decide +kernel
theorem dX11_laws_17 : decode cX11_laws 17 = .ok (.iconst 0, 1) := by decide +kernel
theorem dX11_laws_18 : decode cX11_laws 18 = .ok (.istore 4, 2) := by decide +kernel
theorem dX11_laws_20 : decode cX11_laws 20 = .ok (.iconst 0, 1) := by decide +kernel
theorem dX11_laws_21 : decode cX11_laws 21 = .ok (.istore 5, 2) := by decide +kernel
theorem dX11_laws_23 : decode cX11_laws 23 = .ok (.iload 5, 2) := by decide +kernel
theorem dX11_laws_25 : decode cX11_laws 25 = .ok (.aload_n 0, 1) := by decide +kernel
theorem dX11_laws_26 : decode cX11_laws 26 = .ok (.getfield 94, 3) := by decide +kernel
theorem dX11_laws_29 : decode cX11_laws 29 = .ok (.if_icmp .ge 37, 3) := by decide +kernel
theorem dX11_laws_32 : decode cX11_laws 32 = .ok (.aload_n 0, 1) := by decide +kernel
theorem dX11_laws_33 : decode cX11_laws 33 = .ok (.iload 5, 2) := by decide +kernel
theorem dX11_laws_35 : decode cX11_laws 35 = .ok (.putfield 97, 3) := by decide +kernel
theorem dX11_laws_38 : decode cX11_laws 38 = .ok (.iload 4, 2) := by decide +kernel
theorem dX11_laws_40 : decode cX11_laws 40 = .ok (.aload_n 0, 1) := by decide +kernel
theorem dX11_laws_41 : decode cX11_laws 41 = .ok (.iload_n 1, 1) := by decide +kernel
theorem dX11_laws_42 : decode cX11_laws 42 = .ok (.invokevirtual 259, 3) := by decide +kernel
theorem dX11_laws_45 : decode cX11_laws 45 = .ok (.iconst (-1), 1) := by decide +kernel
theorem dX11_laws_46 : decode cX11_laws 46 = .ok (.if_icmp .ne 10, 3) := by decide +kernel
theorem dX11_laws_49 : decode cX11_laws 49 = .ok (.iconst 1, 1) := by decide +kernel
theorem dX11_laws_50 : decode cX11_laws 50 = .ok (.iload 5, 2) := by decide +kernel
theorem dX11_laws_52 : decode cX11_laws 52 = .ok (.ishl, 1) := by decide +kernel
theorem dX11_laws_53 : decode cX11_laws 53 = .ok (.goto 4, 3) := by decide +kernel
theorem dX11_laws_56 : decode cX11_laws 56 = .ok (.iconst 0, 1) := by decide +kernel
theorem dX11_laws_57 : decode cX11_laws 57 = .ok (.ior, 1) := by decide +kernel
theorem dX11_laws_58 : decode cX11_laws 58 = .ok (.istore 4, 2) := by decide +kernel
theorem dX11_laws_60 : decode cX11_laws 60 = .ok (.iinc 5 1, 3) := by decide +kernel
theorem dX11_laws_63 : decode cX11_laws 63 = .ok (.goto (-40), 3) := by decide +kernel
theorem dX11_laws_66 : decode cX11_laws 66 = .ok (.aload_n 0, 1) := by decide +kernel
theorem dX11_laws_67 : decode cX11_laws 67 = .ok (.iload_n 3, 1) := by decide +kernel
theorem dX11_laws_68 : decode cX11_laws 68 = .ok (.putfield 97, 3) := by decide +kernel
theorem dX11_laws_71 : decode cX11_laws 71 = .ok (.iload 4, 2) := by decide +kernel
theorem dX11_laws_73 : decode cX11_laws 73 = .ok (.ireturn, 1) := by decide +kernel
theorem dX11_film_0 : decode cX11_film 0 = .ok (.iload_n 1, 1) := by decide +kernel
theorem dX11_film_1 : decode cX11_film 1 = .ok (.iconst 0, 1) := by decide +kernel
theorem dX11_film_2 : decode cX11_film 2 = .ok (.iconst 3, 1) := by decide +kernel
theorem dX11_film_3 : decode cX11_film 3 = .ok (.invokestatic 84, 3) := by decide +kernel
theorem dX11_film_6 : decode cX11_film 6 = .ok (.ifCond .eq 13, 3) := by decide +kernel
theorem dX11_film_9 : decode cX11_film 9 = .ok (.iload_n 2, 1) := by decide +kernel
theorem dX11_film_10 : decode cX11_film 10 = .ok (.iconst 0, 1) := by decide +kernel
theorem dX11_film_11 : decode cX11_film 11 = .ok (.bipush 13, 2) := by decide +kernel
theorem dX11_film_13 : decode cX11_film 13 = .ok (.invokestatic 84, 3) := by decide +kernel
theorem dX11_film_16 : decode cX11_film 16 = .ok (.ifCond .ne 6, 3) := by decide +kernel
theorem dX11_film_19 : decode cX11_film 19 = .ok (.bipush (-2), 2) := by decide +kernel
theorem dX11_film_21 : decode cX11_film 21 = .ok (.ireturn, 1) := by decide +kernel
theorem dX11_film_22 : decode cX11_film 22 = .ok (.iconst 0, 1) := by decide +kernel
theorem dX11_film_23 : decode cX11_film 23 = .ok (.istore_n 3, 1) := by decide +kernel
theorem dX11_film_24 : decode cX11_film 24 = .ok (.iload_n 3, 1) := by decide +kernel
theorem dX11_film_25 : decode cX11_film 25 = .ok (.bipush 40, 2) := by decide +kernel
theorem dX11_film_27 : decode cX11_film 27 = .ok (.if_icmp .ge 21, 3) := by decide +kernel
theorem dX11_film_30 : decode cX11_film 30 = .ok (.aload_n 0, 1) := by decide +kernel
theorem dX11_film_31 : decode cX11_film 31 = .ok (.getfield 46, 3) := by decide +kernel
theorem dX11_film_34 : decode cX11_film 34 = .ok (.bipush 40, 2) := by decide +kernel
theorem dX11_film_36 : decode cX11_film 36 = .ok (.iload_n 1, 1) := by decide +kernel
theorem dX11_film_37 : decode cX11_film 37 = .ok (.imul, 1) := by decide +kernel
theorem dX11_film_38 : decode cX11_film 38 = .ok (.iload_n 3, 1) := by decide +kernel
theorem dX11_film_39 : decode cX11_film 39 = .ok (.iadd, 1) := by decide +kernel
theorem dX11_film_40 : decode cX11_film 40 = .ok (.iconst 0, 1) := by decide +kernel
theorem dX11_film_41 : decode cX11_film 41 = .ok (.iastore, 1) := by decide +kernel
theorem dX11_film_42 : decode cX11_film 42 = .ok (.iinc 3 1, 3) := by decide +kernel
theorem dX11_film_45 : decode cX11_film 45 = .ok (.goto (-21), 3) := by decide +kernel
theorem dX11_film_48 : decode cX11_film 48 = .ok (.iconst 0, 1) := by decide +kernel
theorem dX11_film_49 : decode cX11_film 49 = .ok (.istore_n 3, 1) := by decide +kernel
theorem dX11_film_50 : decode cX11_film 50 = .ok (.aload_n 0, 1) := by decide +kernel
theorem dX11_film_51 : decode cX11_film 51 = .ok (.invokevirtual 222, 3) := by decide +kernel
theorem dX11_film_54 : decode cX11_film 54 = .ok (.iconst 0, 1) := by decide +kernel
theorem dX11_film_55 : decode cX11_film 55 = .ok (.istore 4, 2) := by decide +kernel
theorem dX11_film_57 : decode cX11_film 57 = .ok (.iload 4, 2) := by decide +kernel
theorem dX11_film_59 : decode cX11_film 59 = .ok (.iload_n 2, 1) := by decide +kernel
theorem dX11_film_60 : decode cX11_film 60 = .ok (.if_icmp .ge 114, 3) := by decide +kernel
theorem dX11_film_63 : decode cX11_film 63 = .ok (.aload_n 0, 1) := by decide +kernel
theorem dX11_film_64 : decode cX11_film 64 = .ok (.getfield 81, 3) := by decide +kernel
theorem dX11_film_67 : decode cX11_film 67 = .ok (.ifCond .le 107, 3) := by decide +kernel
theorem dX11_film_70 : decode cX11_film 70 = .ok (.iload 4, 2) := by decide +kernel
theorem dX11_film_72 : decode cX11_film 72 = .ok (.aload_n 0, 1) := by decide +kernel
theorem dX11_film_73 : decode cX11_film 73 = .ok (.getfield 81, 3) := by decide +kernel
theorem dX11_film_76 : decode cX11_film 76 = .ok (.irem, 1) := by decide +kernel
theorem dX11_film_77 : decode cX11_film 77 = .ok (.istore 5, 2) := by decide +kernel
theorem dX11_film_79 : decode cX11_film 79 = .ok (.aload_n 0, 1) := by decide +kernel
theorem dX11_film_80 : decode cX11_film 80 = .ok (.iload 5, 2) := by decide +kernel
theorem dX11_film_82 : decode cX11_film 82 = .ok (.invokevirtual 219, 3) := by decide +kernel
theorem dX11_film_85 : decode cX11_film 85 = .ok (.istore 6, 2) := by decide +kernel
theorem dX11_film_87 : decode cX11_film 87 = .ok (.iload 6, 2) := by decide +kernel
theorem dX11_film_89 : decode cX11_film 89 = .ok (.iconst (-1), 1) := by decide +kernel
theorem dX11_film_90 : decode cX11_film 90 = .ok (.if_icmp .eq 78, 3) := by decide +kernel
theorem dX11_film_93 : decode cX11_film 93 = .ok (.aload_n 0, 1) := by decide +kernel
theorem dX11_film_94 : decode cX11_film 94 = .ok (.getfield 46, 3) := by decide +kernel
theorem dX11_film_97 : decode cX11_film 97 = .ok (.bipush 40, 2) := by decide +kernel
theorem dX11_film_99 : decode cX11_film 99 = .ok (.iload_n 1, 1) := by decide +kernel
theorem dX11_film_100 : decode cX11_film 100 = .ok (.imul, 1) := by decide +kernel
theorem dX11_film_101 : decode cX11_film 101 = .ok (.iconst 3, 1) := by decide +kernel
theorem dX11_film_102 : decode cX11_film 102 = .ok (.iload_n 3, 1) := by decide +kernel
theorem dX11_film_103 : decode cX11_film 103 = .ok (.imul, 1) := by decide +kernel
theorem dX11_film_104 : decode cX11_film 104 = .ok (.iadd, 1) := by decide +kernel
theorem dX11_film_105 : decode cX11_film 105 = .ok (.iload 5, 2) := by decide +kernel
theorem dX11_film_107 : decode cX11_film 107 = .ok (.iastore, 1) := by decide +kernel
theorem dX11_film_108 : decode cX11_film 108 = .ok (.aload_n 0, 1) := by decide +kernel
theorem dX11_film_109 : decode cX11_film 109 = .ok (.getfield 46, 3) := by decide +kernel
theorem dX11_film_112 : decode cX11_film 112 = .ok (.bipush 40, 2) := by decide +kernel
theorem dX11_film_114 : decode cX11_film 114 = .ok (.iload_n 1, 1) := by decide +kernel
theorem dX11_film_115 : decode cX11_film 115 = .ok (.imul, 1) := by decide +kernel
theorem dX11_film_116 : decode cX11_film 116 = .ok (.iconst 3, 1) := by decide +kernel
theorem dX11_film_117 : decode cX11_film 117 = .ok (.iload_n 3, 1) := by decide +kernel
theorem dX11_film_118 : decode cX11_film 118 = .ok (.imul, 1) := by decide +kernel
theorem dX11_film_119 : decode cX11_film 119 = .ok (.iadd, 1) := by decide +kernel
theorem dX11_film_120 : decode cX11_film 120 = .ok (.iconst 1, 1) := by decide +kernel
theorem dX11_film_121 : decode cX11_film 121 = .ok (.iadd, 1) := by decide +kernel
theorem dX11_film_122 : decode cX11_film 122 = .ok (.iload 6, 2) := by decide +kernel
theorem dX11_film_124 : decode cX11_film 124 = .ok (.bipush 100, 2) := by decide +kernel
theorem dX11_film_126 : decode cX11_film 126 = .ok (.idiv, 1) := by decide +kernel
theorem dX11_film_127 : decode cX11_film 127 = .ok (.iastore, 1) := by decide +kernel
theorem dX11_film_128 : decode cX11_film 128 = .ok (.aload_n 0, 1) := by decide +kernel
theorem dX11_film_129 : decode cX11_film 129 = .ok (.getfield 46, 3) := by decide +kernel
theorem dX11_film_132 : decode cX11_film 132 = .ok (.bipush 40, 2) := by decide +kernel
theorem dX11_film_134 : decode cX11_film 134 = .ok (.iload_n 1, 1) := by decide +kernel
theorem dX11_film_135 : decode cX11_film 135 = .ok (.imul, 1) := by decide +kernel
theorem dX11_film_136 : decode cX11_film 136 = .ok (.iconst 3, 1) := by decide +kernel
theorem dX11_film_137 : decode cX11_film 137 = .ok (.iload_n 3, 1) := by decide +kernel
theorem dX11_film_138 : decode cX11_film 138 = .ok (.imul, 1) := by decide +kernel
theorem dX11_film_139 : decode cX11_film 139 = .ok (.iadd, 1) := by decide +kernel
theorem dX11_film_140 : decode cX11_film 140 = .ok (.iconst 2, 1) := by decide +kernel
theorem dX11_film_141 : decode cX11_film 141 = .ok (.iadd, 1) := by decide +kernel
theorem dX11_film_142 : decode cX11_film 142 = .ok (.iload 6, 2) := by decide +kernel
theorem dX11_film_144 : decode cX11_film 144 = .ok (.bipush 100, 2) := by decide +kernel
theorem dX11_film_146 : decode cX11_film 146 = .ok (.irem, 1) := by decide +kernel
theorem dX11_film_147 : decode cX11_film 147 = .ok (.iastore, 1) := by decide +kernel
theorem dX11_film_148 : decode cX11_film 148 = .ok (.aload_n 0, 1) := by decide +kernel
theorem dX11_film_149 : decode cX11_film 149 = .ok (.iload 5, 2) := by decide +kernel
theorem dX11_film_151 : decode cX11_film 151 = .ok (.iload 6, 2) := by decide +kernel
theorem dX11_film_153 : decode cX11_film 153 = .ok (.bipush 100, 2) := by decide +kernel
theorem dX11_film_155 : decode cX11_film 155 = .ok (.idiv, 1) := by decide +kernel
theorem dX11_film_156 : decode cX11_film 156 = .ok (.iload 6, 2) := by decide +kernel
theorem dX11_film_158 : decode cX11_film 158 = .ok (.bipush 100, 2) := by decide +kernel
theorem dX11_film_160 : decode cX11_film 160 = .ok (.irem, 1) := by decide +kernel
theorem dX11_film_161 : decode cX11_film 161 = .ok (.invokevirtual 210, 3) := by decide +kernel
theorem dX11_film_164 : decode cX11_film 164 = .ok (.pop, 1) := by decide +kernel
theorem dX11_film_165 : decode cX11_film 165 = .ok (.iinc 3 1, 3) := by decide +kernel
theorem dX11_film_168 : decode cX11_film 168 = .ok (.iinc 4 1, 3) := by decide +kernel
theorem dX11_film_171 : decode cX11_film 171 = .ok (.goto (-114), 3) := by decide +kernel
theorem dX11_film_174 : decode cX11_film 174 = .ok (.aload_n 0, 1) := by decide +kernel
theorem dX11_film_175 : decode cX11_film 175 = .ok (.invokevirtual 225, 3) := by decide +kernel
theorem dX11_film_178 : decode cX11_film 178 = .ok (.aload_n 0, 1) := by decide +kernel
theorem dX11_film_179 : decode cX11_film 179 = .ok (.getfield 40, 3) := by decide +kernel
theorem dX11_film_182 : decode cX11_film 182 = .ok (.iload_n 1, 1) := by decide +kernel
theorem dX11_film_183 : decode cX11_film 183 = .ok (.iconst 0, 1) := by decide +kernel
theorem dX11_film_184 : decode cX11_film 184 = .ok (.iastore, 1) := by decide +kernel
theorem dX11_film_185 : decode cX11_film 185 = .ok (.aload_n 0, 1) := by decide +kernel
theorem dX11_film_186 : decode cX11_film 186 = .ok (.getfield 43, 3) := by decide +kernel
theorem dX11_film_189 : decode cX11_film 189 = .ok (.iload_n 1, 1) := by decide +kernel
theorem dX11_film_190 : decode cX11_film 190 = .ok (.iconst 3, 1) := by decide +kernel
theorem dX11_film_191 : decode cX11_film 191 = .ok (.iload_n 3, 1) := by decide +kernel
theorem dX11_film_192 : decode cX11_film 192 = .ok (.imul, 1) := by decide +kernel
theorem dX11_film_193 : decode cX11_film 193 = .ok (.iastore, 1) := by decide +kernel
theorem dX11_film_194 : decode cX11_film 194 = .ok (.iload_n 3, 1) := by decide +kernel
theorem dX11_film_195 : decode cX11_film 195 = .ok (.ireturn, 1) := by decide +kernel
theorem dX11_dayBy_0 : decode cX11_dayBy 0 = .ok (.iload_n 1, 1) := by decide +kernel
theorem dX11_dayBy_1 : decode cX11_dayBy 1 = .ok (.i2l, 1) := by decide +kernel
theorem dX11_dayBy_2 : decode cX11_dayBy 2 = .ok (.lconst 1, 1) := by decide +kernel
theorem dX11_dayBy_3 : decode cX11_dayBy 3 = .ok (.ladd, 1) := by decide +kernel
theorem dX11_dayBy_4 : decode cX11_dayBy 4 = .ok (.lstore 4, 2) := by decide +kernel
theorem dX11_dayBy_6 : decode cX11_dayBy 6 = .ok (.aload_n 0, 1) := by decide +kernel
theorem dX11_dayBy_7 : decode cX11_dayBy 7 = .ok (.invokevirtual 222, 3) := by decide +kernel
theorem dX11_dayBy_10 : decode cX11_dayBy 10 = .ok (.iconst 0, 1) := by decide +kernel
theorem dX11_dayBy_11 : decode cX11_dayBy 11 = .ok (.istore 6, 2) := by decide +kernel
theorem dX11_dayBy_13 : decode cX11_dayBy 13 = .ok (.iload 6, 2) := by decide +kernel
theorem dX11_dayBy_15 : decode cX11_dayBy 15 = .ok (.iload_n 2, 1) := by decide +kernel
theorem dX11_dayBy_16 : decode cX11_dayBy 16 = .ok (.if_icmp .ge 84, 3) := by decide +kernel
theorem dX11_dayBy_19 : decode cX11_dayBy 19 = .ok (.lload 4, 2) := by decide +kernel
theorem dX11_dayBy_21 : decode cX11_dayBy 21 = .ok (.ldc2_w 262, 3) := by decide +kernel
theorem dX11_dayBy_24 : decode cX11_dayBy 24 = .ok (.lmul, 1) := by decide +kernel
theorem dX11_dayBy_25 : decode cX11_dayBy 25 = .ok (.ldc2_w 264, 3) := by decide +kernel
theorem dX11_dayBy_28 : decode cX11_dayBy 28 = .ok (.lrem, 1) := by decide +kernel
theorem dX11_dayBy_29 : decode cX11_dayBy 29 = .ok (.lstore 4, 2) := by decide +kernel
theorem dX11_dayBy_31 : decode cX11_dayBy 31 = .ok (.lload 4, 2) := by decide +kernel
theorem dX11_dayBy_33 : decode cX11_dayBy 33 = .ok (.aload_n 0, 1) := by decide +kernel
theorem dX11_dayBy_34 : decode cX11_dayBy 34 = .ok (.getfield 81, 3) := by decide +kernel
theorem dX11_dayBy_37 : decode cX11_dayBy 37 = .ok (.i2l, 1) := by decide +kernel
theorem dX11_dayBy_38 : decode cX11_dayBy 38 = .ok (.lrem, 1) := by decide +kernel
theorem dX11_dayBy_39 : decode cX11_dayBy 39 = .ok (.l2i, 1) := by decide +kernel
theorem dX11_dayBy_40 : decode cX11_dayBy 40 = .ok (.istore 7, 2) := by decide +kernel
theorem dX11_dayBy_42 : decode cX11_dayBy 42 = .ok (.lload 4, 2) := by decide +kernel
theorem dX11_dayBy_44 : decode cX11_dayBy 44 = .ok (.ldc2_w 266, 3) := by decide +kernel
theorem dX11_dayBy_47 : decode cX11_dayBy 47 = .ok (.ldiv, 1) := by decide +kernel
theorem dX11_dayBy_48 : decode cX11_dayBy 48 = .ok (.aload_n 0, 1) := by decide +kernel
theorem dX11_dayBy_49 : decode cX11_dayBy 49 = .ok (.getfield 88, 3) := by decide +kernel
theorem dX11_dayBy_52 : decode cX11_dayBy 52 = .ok (.i2l, 1) := by decide +kernel
theorem dX11_dayBy_53 : decode cX11_dayBy 53 = .ok (.lrem, 1) := by decide +kernel
theorem dX11_dayBy_54 : decode cX11_dayBy 54 = .ok (.l2i, 1) := by decide +kernel
theorem dX11_dayBy_55 : decode cX11_dayBy 55 = .ok (.istore 8, 2) := by decide +kernel
theorem dX11_dayBy_57 : decode cX11_dayBy 57 = .ok (.lload 4, 2) := by decide +kernel
theorem dX11_dayBy_59 : decode cX11_dayBy 59 = .ok (.ldc2_w 268, 3) := by decide +kernel
theorem dX11_dayBy_62 : decode cX11_dayBy 62 = .ok (.ldiv, 1) := by decide +kernel
theorem dX11_dayBy_63 : decode cX11_dayBy 63 = .ok (.ldc2_w 270, 3) := by decide +kernel
theorem dX11_dayBy_66 : decode cX11_dayBy 66 = .ok (.lrem, 1) := by decide +kernel
theorem dX11_dayBy_67 : decode cX11_dayBy 67 = .ok (.l2i, 1) := by decide +kernel
theorem dX11_dayBy_68 : decode cX11_dayBy 68 = .ok (.istore 9, 2) := by decide +kernel
theorem dX11_dayBy_70 : decode cX11_dayBy 70 = .ok (.aload_n 0, 1) := by decide +kernel
theorem dX11_dayBy_71 : decode cX11_dayBy 71 = .ok (.iload 7, 2) := by decide +kernel
theorem dX11_dayBy_73 : decode cX11_dayBy 73 = .ok (.iload 8, 2) := by decide +kernel
theorem dX11_dayBy_75 : decode cX11_dayBy 75 = .ok (.iload 9, 2) := by decide +kernel
theorem dX11_dayBy_77 : decode cX11_dayBy 77 = .ok (.invokevirtual 216, 3) := by decide +kernel
theorem dX11_dayBy_80 : decode cX11_dayBy 80 = .ok (.ifCond .eq 14, 3) := by decide +kernel
theorem dX11_dayBy_83 : decode cX11_dayBy 83 = .ok (.aload_n 0, 1) := by decide +kernel
theorem dX11_dayBy_84 : decode cX11_dayBy 84 = .ok (.iload 7, 2) := by decide +kernel
theorem dX11_dayBy_86 : decode cX11_dayBy 86 = .ok (.iload 8, 2) := by decide +kernel
theorem dX11_dayBy_88 : decode cX11_dayBy 88 = .ok (.iload 9, 2) := by decide +kernel
theorem dX11_dayBy_90 : decode cX11_dayBy 90 = .ok (.invokevirtual 210, 3) := by decide +kernel
theorem dX11_dayBy_93 : decode cX11_dayBy 93 = .ok (.pop, 1) := by decide +kernel
theorem dX11_dayBy_94 : decode cX11_dayBy 94 = .ok (.iinc 6 1, 3) := by decide +kernel
theorem dX11_dayBy_97 : decode cX11_dayBy 97 = .ok (.goto (-84), 3) := by decide +kernel
theorem dX11_dayBy_100 : decode cX11_dayBy 100 = .ok (.aload_n 0, 1) := by decide +kernel
theorem dX11_dayBy_101 : decode cX11_dayBy 101 = .ok (.aload_n 0, 1) := by decide +kernel
theorem dX11_dayBy_102 : decode cX11_dayBy 102 = .ok (.getfield 19, 3) := by decide +kernel
theorem dX11_dayBy_105 : decode cX11_dayBy 105 = .ok (.iconst 3, 1) := by decide +kernel
theorem dX11_dayBy_106 : decode cX11_dayBy 106 = .ok (.iload_n 3, 1) := by decide +kernel
theorem dX11_dayBy_107 : decode cX11_dayBy 107 = .ok (.imul, 1) := by decide +kernel
theorem dX11_dayBy_108 : decode cX11_dayBy 108 = .ok (.iconst 2, 1) := by decide +kernel
theorem dX11_dayBy_109 : decode cX11_dayBy 109 = .ok (.iadd, 1) := by decide +kernel
theorem dX11_dayBy_110 : decode cX11_dayBy 110 = .ok (.iaload, 1) := by decide +kernel
theorem dX11_dayBy_111 : decode cX11_dayBy 111 = .ok (.putfield 272, 3) := by decide +kernel
theorem dX11_dayBy_114 : decode cX11_dayBy 114 = .ok (.aload_n 0, 1) := by decide +kernel
theorem dX11_dayBy_115 : decode cX11_dayBy 115 = .ok (.aload_n 0, 1) := by decide +kernel
theorem dX11_dayBy_116 : decode cX11_dayBy 116 = .ok (.getfield 19, 3) := by decide +kernel
theorem dX11_dayBy_119 : decode cX11_dayBy 119 = .ok (.iconst 3, 1) := by decide +kernel
theorem dX11_dayBy_120 : decode cX11_dayBy 120 = .ok (.iload_n 3, 1) := by decide +kernel
theorem dX11_dayBy_121 : decode cX11_dayBy 121 = .ok (.imul, 1) := by decide +kernel
theorem dX11_dayBy_122 : decode cX11_dayBy 122 = .ok (.iconst 1, 1) := by decide +kernel
theorem dX11_dayBy_123 : decode cX11_dayBy 123 = .ok (.iadd, 1) := by decide +kernel
theorem dX11_dayBy_124 : decode cX11_dayBy 124 = .ok (.iaload, 1) := by decide +kernel
theorem dX11_dayBy_125 : decode cX11_dayBy 125 = .ok (.putfield 275, 3) := by decide +kernel
theorem dX11_dayBy_128 : decode cX11_dayBy 128 = .ok (.aload_n 0, 1) := by decide +kernel
theorem dX11_dayBy_129 : decode cX11_dayBy 129 = .ok (.invokevirtual 225, 3) := by decide +kernel
theorem dX11_dayBy_132 : decode cX11_dayBy 132 = .ok (.return_, 1) := by decide +kernel
theorem dX11_drawn_0 : decode cX11_drawn 0 = .ok (.aload_n 0, 1) := by decide +kernel
theorem dX11_drawn_1 : decode cX11_drawn 1 = .ok (.iload_n 3, 1) := by decide +kernel
theorem dX11_drawn_2 : decode cX11_drawn 2 = .ok (.invokevirtual 179, 3) := by decide +kernel
theorem dX11_drawn_5 : decode cX11_drawn 5 = .ok (.ifCond .ne 6, 3) := by decide +kernel
theorem dX11_drawn_8 : decode cX11_drawn 8 = .ok (.bipush (-5), 2) := by decide +kernel
theorem dX11_drawn_10 : decode cX11_drawn 10 = .ok (.ireturn, 1) := by decide +kernel
theorem dX11_drawn_11 : decode cX11_drawn 11 = .ok (.iload_n 1, 1) := by decide +kernel
theorem dX11_drawn_12 : decode cX11_drawn 12 = .ok (.iconst 0, 1) := by decide +kernel
theorem dX11_drawn_13 : decode cX11_drawn 13 = .ok (.ldc_w 278, 3) := by decide +kernel
theorem dX11_drawn_16 : decode cX11_drawn 16 = .ok (.invokestatic 84, 3) := by decide +kernel
theorem dX11_drawn_19 : decode cX11_drawn 19 = .ok (.ifCond .eq 23, 3) := by decide +kernel
theorem dX11_drawn_22 : decode cX11_drawn 22 = .ok (.iload_n 2, 1) := by decide +kernel
theorem dX11_drawn_23 : decode cX11_drawn 23 = .ok (.iconst 0, 1) := by decide +kernel
theorem dX11_drawn_24 : decode cX11_drawn 24 = .ok (.bipush 60, 2) := by decide +kernel
theorem dX11_drawn_26 : decode cX11_drawn 26 = .ok (.invokestatic 84, 3) := by decide +kernel
theorem dX11_drawn_29 : decode cX11_drawn 29 = .ok (.ifCond .eq 13, 3) := by decide +kernel
theorem dX11_drawn_32 : decode cX11_drawn 32 = .ok (.iload 4, 2) := by decide +kernel
theorem dX11_drawn_34 : decode cX11_drawn 34 = .ok (.iconst 0, 1) := by decide +kernel
theorem dX11_drawn_35 : decode cX11_drawn 35 = .ok (.iconst 1, 1) := by decide +kernel
theorem dX11_drawn_36 : decode cX11_drawn 36 = .ok (.invokestatic 84, 3) := by decide +kernel
theorem dX11_drawn_39 : decode cX11_drawn 39 = .ok (.ifCond .ne 6, 3) := by decide +kernel
theorem dX11_drawn_42 : decode cX11_drawn 42 = .ok (.bipush (-7), 2) := by decide +kernel
theorem dX11_drawn_44 : decode cX11_drawn 44 = .ok (.ireturn, 1) := by decide +kernel
theorem dX11_drawn_45 : decode cX11_drawn 45 = .ok (.aload_n 0, 1) := by decide +kernel
theorem dX11_drawn_46 : decode cX11_drawn 46 = .ok (.getfield 88, 3) := by decide +kernel
theorem dX11_drawn_49 : decode cX11_drawn 49 = .ok (.ifCond .ne 6, 3) := by decide +kernel
theorem dX11_drawn_52 : decode cX11_drawn 52 = .ok (.bipush (-3), 2) := by decide +kernel
theorem dX11_drawn_54 : decode cX11_drawn 54 = .ok (.ireturn, 1) := by decide +kernel
theorem dX11_drawn_55 : decode cX11_drawn 55 = .ok (.aload_n 0, 1) := by decide +kernel
theorem dX11_drawn_56 : decode cX11_drawn 56 = .ok (.iload_n 1, 1) := by decide +kernel
theorem dX11_drawn_57 : decode cX11_drawn 57 = .ok (.iload_n 2, 1) := by decide +kernel
theorem dX11_drawn_58 : decode cX11_drawn 58 = .ok (.iload_n 3, 1) := by decide +kernel
theorem dX11_drawn_59 : decode cX11_drawn 59 = .ok (.invokevirtual 279, 3) := by decide +kernel
theorem dX11_drawn_62 : decode cX11_drawn 62 = .ok (.iload 4, 2) := by decide +kernel
theorem dX11_drawn_64 : decode cX11_drawn 64 = .ok (.ifCond .ne 10, 3) := by decide +kernel
theorem dX11_drawn_67 : decode cX11_drawn 67 = .ok (.aload_n 0, 1) := by decide +kernel
theorem dX11_drawn_68 : decode cX11_drawn 68 = .ok (.getfield 272, 3) := by decide +kernel
theorem dX11_drawn_71 : decode cX11_drawn 71 = .ok (.goto 7, 3) := by decide +kernel
theorem dX11_drawn_74 : decode cX11_drawn 74 = .ok (.aload_n 0, 1) := by decide +kernel
theorem dX11_drawn_75 : decode cX11_drawn 75 = .ok (.getfield 275, 3) := by decide +kernel
theorem dX11_drawn_78 : decode cX11_drawn 78 = .ok (.ireturn, 1) := by decide +kernel
theorem dX11_lowest_0 : decode cX11_lowest 0 = .ok (.lload_n 0, 1) := by decide +kernel
theorem dX11_lowest_1 : decode cX11_lowest 1 = .ok (.lconst 0, 1) := by decide +kernel
theorem dX11_lowest_2 : decode cX11_lowest 2 = .ok (.lcmp, 1) := by decide +kernel
theorem dX11_lowest_3 : decode cX11_lowest 3 = .ok (.ifCond .ne 7, 3) := by decide +kernel
theorem dX11_lowest_6 : decode cX11_lowest 6 = .ok (.iload 4, 2) := by decide +kernel
theorem dX11_lowest_8 : decode cX11_lowest 8 = .ok (.i2l, 1) := by decide +kernel
theorem dX11_lowest_9 : decode cX11_lowest 9 = .ok (.lreturn, 1) := by decide +kernel
theorem dX11_lowest_10 : decode cX11_lowest 10 = .ok (.lload_n 0, 1) := by decide +kernel
theorem dX11_lowest_11 : decode cX11_lowest 11 = .ok (.lstore 5, 2) := by decide +kernel
theorem dX11_lowest_13 : decode cX11_lowest 13 = .ok (.lload_n 2, 1) := by decide +kernel
theorem dX11_lowest_14 : decode cX11_lowest 14 = .ok (.lstore 7, 2) := by decide +kernel
theorem dX11_lowest_16 : decode cX11_lowest 16 = .ok (.lload 7, 2) := by decide +kernel
theorem dX11_lowest_18 : decode cX11_lowest 18 = .ok (.lconst 0, 1) := by decide +kernel
theorem dX11_lowest_19 : decode cX11_lowest 19 = .ok (.lcmp, 1) := by decide +kernel
theorem dX11_lowest_20 : decode cX11_lowest 20 = .ok (.ifCond .eq 21, 3) := by decide +kernel
theorem dX11_lowest_23 : decode cX11_lowest 23 = .ok (.lload 5, 2) := by decide +kernel
theorem dX11_lowest_25 : decode cX11_lowest 25 = .ok (.lload 7, 2) := by decide +kernel
theorem dX11_lowest_27 : decode cX11_lowest 27 = .ok (.lrem, 1) := by decide +kernel
theorem dX11_lowest_28 : decode cX11_lowest 28 = .ok (.lstore 9, 2) := by decide +kernel
theorem dX11_lowest_30 : decode cX11_lowest 30 = .ok (.lload 7, 2) := by decide +kernel
theorem dX11_lowest_32 : decode cX11_lowest 32 = .ok (.lstore 5, 2) := by decide +kernel
theorem dX11_lowest_34 : decode cX11_lowest 34 = .ok (.lload 9, 2) := by decide +kernel
theorem dX11_lowest_36 : decode cX11_lowest 36 = .ok (.lstore 7, 2) := by decide +kernel
theorem dX11_lowest_38 : decode cX11_lowest 38 = .ok (.goto (-22), 3) := by decide +kernel
theorem dX11_lowest_41 : decode cX11_lowest 41 = .ok (.iload 4, 2) := by decide +kernel
theorem dX11_lowest_43 : decode cX11_lowest 43 = .ok (.ifCond .ne 7, 3) := by decide +kernel
theorem dX11_lowest_46 : decode cX11_lowest 46 = .ok (.lload_n 0, 1) := by decide +kernel
theorem dX11_lowest_47 : decode cX11_lowest 47 = .ok (.goto 4, 3) := by decide +kernel
theorem dX11_lowest_50 : decode cX11_lowest 50 = .ok (.lload_n 2, 1) := by decide +kernel
theorem dX11_lowest_51 : decode cX11_lowest 51 = .ok (.lload 5, 2) := by decide +kernel
theorem dX11_lowest_53 : decode cX11_lowest 53 = .ok (.ldiv, 1) := by decide +kernel
theorem dX11_lowest_54 : decode cX11_lowest 54 = .ok (.lreturn, 1) := by decide +kernel
theorem dX11_odds_0 : decode cX11_odds 0 = .ok (.iload_n 1, 1) := by decide +kernel
theorem dX11_odds_1 : decode cX11_odds 1 = .ok (.iconst 0, 1) := by decide +kernel
theorem dX11_odds_2 : decode cX11_odds 2 = .ok (.ldc_w 278, 3) := by decide +kernel
theorem dX11_odds_5 : decode cX11_odds 5 = .ok (.invokestatic 84, 3) := by decide +kernel
theorem dX11_odds_8 : decode cX11_odds 8 = .ok (.ifCond .eq 61, 3) := by decide +kernel
theorem dX11_odds_11 : decode cX11_odds 11 = .ok (.iload_n 2, 1) := by decide +kernel
theorem dX11_odds_12 : decode cX11_odds 12 = .ok (.iconst 0, 1) := by decide +kernel
theorem dX11_odds_13 : decode cX11_odds 13 = .ok (.sipush 6040, 3) := by decide +kernel
theorem dX11_odds_16 : decode cX11_odds 16 = .ok (.invokestatic 84, 3) := by decide +kernel
theorem dX11_odds_19 : decode cX11_odds 19 = .ok (.ifCond .eq 50, 3) := by decide +kernel
theorem dX11_odds_22 : decode cX11_odds 22 = .ok (.iload_n 2, 1) := by decide +kernel
theorem dX11_odds_23 : decode cX11_odds 23 = .ok (.bipush 100, 2) := by decide +kernel
theorem dX11_odds_25 : decode cX11_odds 25 = .ok (.irem, 1) := by decide +kernel
theorem dX11_odds_26 : decode cX11_odds 26 = .ok (.iconst 1, 1) := by decide +kernel
theorem dX11_odds_27 : decode cX11_odds 27 = .ok (.bipush 40, 2) := by decide +kernel
theorem dX11_odds_29 : decode cX11_odds 29 = .ok (.invokestatic 84, 3) := by decide +kernel
theorem dX11_odds_32 : decode cX11_odds 32 = .ok (.ifCond .eq 37, 3) := by decide +kernel
theorem dX11_odds_35 : decode cX11_odds 35 = .ok (.aload_n 0, 1) := by decide +kernel
theorem dX11_odds_36 : decode cX11_odds 36 = .ok (.iload_n 3, 1) := by decide +kernel
theorem dX11_odds_37 : decode cX11_odds 37 = .ok (.invokevirtual 179, 3) := by decide +kernel
theorem dX11_odds_40 : decode cX11_odds 40 = .ok (.ifCond .eq 29, 3) := by decide +kernel
theorem dX11_odds_43 : decode cX11_odds 43 = .ok (.iload 4, 2) := by decide +kernel
theorem dX11_odds_45 : decode cX11_odds 45 = .ok (.iconst 0, 1) := by decide +kernel
theorem dX11_odds_46 : decode cX11_odds 46 = .ok (.sipush 9999, 3) := by decide +kernel
theorem dX11_odds_49 : decode cX11_odds 49 = .ok (.invokestatic 84, 3) := by decide +kernel
theorem dX11_odds_52 : decode cX11_odds 52 = .ok (.ifCond .eq 17, 3) := by decide +kernel
theorem dX11_odds_55 : decode cX11_odds 55 = .ok (.iload 5, 2) := by decide +kernel
theorem dX11_odds_57 : decode cX11_odds 57 = .ok (.iconst 0, 1) := by decide +kernel
theorem dX11_odds_58 : decode cX11_odds 58 = .ok (.iconst 1, 1) := by decide +kernel
theorem dX11_odds_59 : decode cX11_odds 59 = .ok (.invokestatic 84, 3) := by decide +kernel
theorem dX11_odds_62 : decode cX11_odds 62 = .ok (.ifCond .eq 7, 3) := by decide +kernel
theorem dX11_odds_65 : decode cX11_odds 65 = .ok (.iconst 1, 1) := by decide +kernel
theorem dX11_odds_66 : decode cX11_odds 66 = .ok (.goto 4, 3) := by decide +kernel
theorem dX11_odds_69 : decode cX11_odds 69 = .ok (.iconst 0, 1) := by decide +kernel
theorem dX11_odds_70 : decode cX11_odds 70 = .ok (.istore 6, 2) := by decide +kernel
theorem dX11_odds_72 : decode cX11_odds 72 = .ok (.iload 6, 2) := by decide +kernel
theorem dX11_odds_74 : decode cX11_odds 74 = .ok (.ifCond .eq 10, 3) := by decide +kernel
theorem dX11_odds_77 : decode cX11_odds 77 = .ok (.aload_n 0, 1) := by decide +kernel
theorem dX11_odds_78 : decode cX11_odds 78 = .ok (.getfield 88, 3) := by decide +kernel
theorem dX11_odds_81 : decode cX11_odds 81 = .ok (.ifCond .ne 7, 3) := by decide +kernel
theorem dX11_odds_84 : decode cX11_odds 84 = .ok (.ldc2_w 283, 3) := by decide +kernel
theorem dX11_odds_87 : decode cX11_odds 87 = .ok (.lreturn, 1) := by decide +kernel
theorem dX11_odds_88 : decode cX11_odds 88 = .ok (.lconst 0, 1) := by decide +kernel
theorem dX11_odds_89 : decode cX11_odds 89 = .ok (.lstore 7, 2) := by decide +kernel
theorem dX11_odds_91 : decode cX11_odds 91 = .ok (.iconst 0, 1) := by decide +kernel
theorem dX11_odds_92 : decode cX11_odds 92 = .ok (.istore 9, 2) := by decide +kernel
theorem dX11_odds_94 : decode cX11_odds 94 = .ok (.iload 9, 2) := by decide +kernel
theorem dX11_odds_96 : decode cX11_odds 96 = .ok (.iload_n 2, 1) := by decide +kernel
theorem dX11_odds_97 : decode cX11_odds 97 = .ok (.bipush 100, 2) := by decide +kernel
theorem dX11_odds_99 : decode cX11_odds 99 = .ok (.irem, 1) := by decide +kernel
theorem dX11_odds_100 : decode cX11_odds 100 = .ok (.if_icmp .ge 41, 3) := by decide +kernel
theorem dX11_odds_103 : decode cX11_odds 103 = .ok (.aload_n 0, 1) := by decide +kernel
theorem dX11_odds_104 : decode cX11_odds 104 = .ok (.iload_n 1, 1) := by decide +kernel
theorem dX11_odds_105 : decode cX11_odds 105 = .ok (.iload 9, 2) := by decide +kernel
theorem dX11_odds_107 : decode cX11_odds 107 = .ok (.iadd, 1) := by decide +kernel
theorem dX11_odds_108 : decode cX11_odds 108 = .ok (.iload_n 2, 1) := by decide +kernel
theorem dX11_odds_109 : decode cX11_odds 109 = .ok (.bipush 100, 2) := by decide +kernel
theorem dX11_odds_111 : decode cX11_odds 111 = .ok (.idiv, 1) := by decide +kernel
theorem dX11_odds_112 : decode cX11_odds 112 = .ok (.iload_n 3, 1) := by decide +kernel
theorem dX11_odds_113 : decode cX11_odds 113 = .ok (.invokevirtual 279, 3) := by decide +kernel
theorem dX11_odds_116 : decode cX11_odds 116 = .ok (.lload 7, 2) := by decide +kernel
theorem dX11_odds_118 : decode cX11_odds 118 = .ok (.aload_n 0, 1) := by decide +kernel
theorem dX11_odds_119 : decode cX11_odds 119 = .ok (.getfield 272, 3) := by decide +kernel
theorem dX11_odds_122 : decode cX11_odds 122 = .ok (.iload 4, 2) := by decide +kernel
theorem dX11_odds_124 : decode cX11_odds 124 = .ok (.if_icmp .lt 7, 3) := by decide +kernel
theorem dX11_odds_127 : decode cX11_odds 127 = .ok (.lconst 1, 1) := by decide +kernel
theorem dX11_odds_128 : decode cX11_odds 128 = .ok (.goto 4, 3) := by decide +kernel
theorem dX11_odds_131 : decode cX11_odds 131 = .ok (.lconst 0, 1) := by decide +kernel
theorem dX11_odds_132 : decode cX11_odds 132 = .ok (.ladd, 1) := by decide +kernel
theorem dX11_odds_133 : decode cX11_odds 133 = .ok (.lstore 7, 2) := by decide +kernel
theorem dX11_odds_135 : decode cX11_odds 135 = .ok (.iinc 9 1, 3) := by decide +kernel
theorem dX11_odds_138 : decode cX11_odds 138 = .ok (.goto (-44), 3) := by decide +kernel
theorem dX11_odds_141 : decode cX11_odds 141 = .ok (.lload 7, 2) := by decide +kernel
theorem dX11_odds_143 : decode cX11_odds 143 = .ok (.iload_n 2, 1) := by decide +kernel
theorem dX11_odds_144 : decode cX11_odds 144 = .ok (.bipush 100, 2) := by decide +kernel
theorem dX11_odds_146 : decode cX11_odds 146 = .ok (.irem, 1) := by decide +kernel
theorem dX11_odds_147 : decode cX11_odds 147 = .ok (.i2l, 1) := by decide +kernel
theorem dX11_odds_148 : decode cX11_odds 148 = .ok (.iload 5, 2) := by decide +kernel
theorem dX11_odds_150 : decode cX11_odds 150 = .ok (.invokestatic 285, 3) := by decide +kernel
theorem dX11_odds_153 : decode cX11_odds 153 = .ok (.lreturn, 1) := by decide +kernel
theorem dX11_image_0 : decode cX11_image 0 = .ok (.aload_n 0, 1) := by decide +kernel
theorem dX11_image_1 : decode cX11_image 1 = .ok (.iconst 1, 1) := by decide +kernel
theorem dX11_image_2 : decode cX11_image 2 = .ok (.putfield 289, 3) := by decide +kernel
theorem dX11_image_5 : decode cX11_image 5 = .ok (.iconst 0, 1) := by decide +kernel
theorem dX11_image_6 : decode cX11_image 6 = .ok (.istore_n 1, 1) := by decide +kernel
theorem dX11_image_7 : decode cX11_image 7 = .ok (.iload_n 1, 1) := by decide +kernel
theorem dX11_image_8 : decode cX11_image 8 = .ok (.bipush 72, 2) := by decide +kernel
theorem dX11_image_10 : decode cX11_image 10 = .ok (.if_icmp .ge 21, 3) := by decide +kernel
theorem dX11_image_13 : decode cX11_image 13 = .ok (.aload_n 0, 1) := by decide +kernel
theorem dX11_image_14 : decode cX11_image 14 = .ok (.getfield 31, 3) := by decide +kernel
theorem dX11_image_17 : decode cX11_image 17 = .ok (.iload_n 1, 1) := by decide +kernel
theorem dX11_image_18 : decode cX11_image 18 = .ok (.aload_n 0, 1) := by decide +kernel
theorem dX11_image_19 : decode cX11_image 19 = .ok (.getfield 7, 3) := by decide +kernel
theorem dX11_image_22 : decode cX11_image 22 = .ok (.iload_n 1, 1) := by decide +kernel
theorem dX11_image_23 : decode cX11_image 23 = .ok (.iaload, 1) := by decide +kernel
theorem dX11_image_24 : decode cX11_image 24 = .ok (.iastore, 1) := by decide +kernel
theorem dX11_image_25 : decode cX11_image 25 = .ok (.iinc 1 1, 3) := by decide +kernel
theorem dX11_image_28 : decode cX11_image 28 = .ok (.goto (-21), 3) := by decide +kernel
theorem dX11_image_31 : decode cX11_image 31 = .ok (.iconst 0, 1) := by decide +kernel
theorem dX11_image_32 : decode cX11_image 32 = .ok (.istore_n 1, 1) := by decide +kernel
theorem dX11_image_33 : decode cX11_image 33 = .ok (.iload_n 1, 1) := by decide +kernel
theorem dX11_image_34 : decode cX11_image 34 = .ok (.bipush 15, 2) := by decide +kernel
theorem dX11_image_36 : decode cX11_image 36 = .ok (.if_icmp .ge 21, 3) := by decide +kernel
theorem dX11_image_39 : decode cX11_image 39 = .ok (.aload_n 0, 1) := by decide +kernel
theorem dX11_image_40 : decode cX11_image 40 = .ok (.getfield 34, 3) := by decide +kernel
theorem dX11_image_43 : decode cX11_image 43 = .ok (.iload_n 1, 1) := by decide +kernel
theorem dX11_image_44 : decode cX11_image 44 = .ok (.aload_n 0, 1) := by decide +kernel
theorem dX11_image_45 : decode cX11_image 45 = .ok (.getfield 19, 3) := by decide +kernel
theorem dX11_image_48 : decode cX11_image 48 = .ok (.iload_n 1, 1) := by decide +kernel
theorem dX11_image_49 : decode cX11_image 49 = .ok (.iaload, 1) := by decide +kernel
theorem dX11_image_50 : decode cX11_image 50 = .ok (.iastore, 1) := by decide +kernel
theorem dX11_image_51 : decode cX11_image 51 = .ok (.iinc 1 1, 3) := by decide +kernel
theorem dX11_image_54 : decode cX11_image 54 = .ok (.goto (-21), 3) := by decide +kernel
theorem dX11_image_57 : decode cX11_image 57 = .ok (.aload_n 0, 1) := by decide +kernel
theorem dX11_image_58 : decode cX11_image 58 = .ok (.getfield 37, 3) := by decide +kernel
theorem dX11_image_61 : decode cX11_image 61 = .ok (.iconst 0, 1) := by decide +kernel
theorem dX11_image_62 : decode cX11_image 62 = .ok (.aload_n 0, 1) := by decide +kernel
theorem dX11_image_63 : decode cX11_image 63 = .ok (.getfield 81, 3) := by decide +kernel
theorem dX11_image_66 : decode cX11_image 66 = .ok (.iastore, 1) := by decide +kernel
theorem dX11_image_67 : decode cX11_image 67 = .ok (.aload_n 0, 1) := by decide +kernel
theorem dX11_image_68 : decode cX11_image 68 = .ok (.getfield 37, 3) := by decide +kernel
theorem dX11_image_71 : decode cX11_image 71 = .ok (.iconst 1, 1) := by decide +kernel
theorem dX11_image_72 : decode cX11_image 72 = .ok (.aload_n 0, 1) := by decide +kernel
theorem dX11_image_73 : decode cX11_image 73 = .ok (.getfield 88, 3) := by decide +kernel
theorem dX11_image_76 : decode cX11_image 76 = .ok (.iastore, 1) := by decide +kernel
theorem dX11_image_77 : decode cX11_image 77 = .ok (.aload_n 0, 1) := by decide +kernel
theorem dX11_image_78 : decode cX11_image 78 = .ok (.getfield 37, 3) := by decide +kernel
theorem dX11_image_81 : decode cX11_image 81 = .ok (.iconst 2, 1) := by decide +kernel
theorem dX11_image_82 : decode cX11_image 82 = .ok (.aload_n 0, 1) := by decide +kernel
theorem dX11_image_83 : decode cX11_image 83 = .ok (.getfield 91, 3) := by decide +kernel
theorem dX11_image_86 : decode cX11_image 86 = .ok (.iastore, 1) := by decide +kernel
theorem dX11_image_87 : decode cX11_image 87 = .ok (.aload_n 0, 1) := by decide +kernel
theorem dX11_image_88 : decode cX11_image 88 = .ok (.getfield 37, 3) := by decide +kernel
theorem dX11_image_91 : decode cX11_image 91 = .ok (.iconst 3, 1) := by decide +kernel
theorem dX11_image_92 : decode cX11_image 92 = .ok (.aload_n 0, 1) := by decide +kernel
theorem dX11_image_93 : decode cX11_image 93 = .ok (.getfield 97, 3) := by decide +kernel
theorem dX11_image_96 : decode cX11_image 96 = .ok (.iastore, 1) := by decide +kernel
theorem dX11_image_97 : decode cX11_image 97 = .ok (.aload_n 0, 1) := by decide +kernel
theorem dX11_image_98 : decode cX11_image 98 = .ok (.getfield 81, 3) := by decide +kernel
theorem dX11_image_101 : decode cX11_image 101 = .ok (.ireturn, 1) := by decide +kernel
theorem dX11_back_0 : decode cX11_back 0 = .ok (.aload_n 0, 1) := by decide +kernel
theorem dX11_back_1 : decode cX11_back 1 = .ok (.getfield 289, 3) := by decide +kernel
theorem dX11_back_4 : decode cX11_back 4 = .ok (.ifCond .ne 6, 3) := by decide +kernel
theorem dX11_back_7 : decode cX11_back 7 = .ok (.bipush (-3), 2) := by decide +kernel
theorem dX11_back_9 : decode cX11_back 9 = .ok (.ireturn, 1) := by decide +kernel
theorem dX11_back_10 : decode cX11_back 10 = .ok (.iconst 0, 1) := by decide +kernel
theorem dX11_back_11 : decode cX11_back 11 = .ok (.istore_n 1, 1) := by decide +kernel
theorem dX11_back_12 : decode cX11_back 12 = .ok (.iload_n 1, 1) := by decide +kernel
theorem dX11_back_13 : decode cX11_back 13 = .ok (.bipush 72, 2) := by decide +kernel
theorem dX11_back_15 : decode cX11_back 15 = .ok (.if_icmp .ge 21, 3) := by decide +kernel
theorem dX11_back_18 : decode cX11_back 18 = .ok (.aload_n 0, 1) := by decide +kernel
theorem dX11_back_19 : decode cX11_back 19 = .ok (.getfield 7, 3) := by decide +kernel
theorem dX11_back_22 : decode cX11_back 22 = .ok (.iload_n 1, 1) := by decide +kernel
theorem dX11_back_23 : decode cX11_back 23 = .ok (.aload_n 0, 1) := by decide +kernel
theorem dX11_back_24 : decode cX11_back 24 = .ok (.getfield 31, 3) := by decide +kernel
theorem dX11_back_27 : decode cX11_back 27 = .ok (.iload_n 1, 1) := by decide +kernel
theorem dX11_back_28 : decode cX11_back 28 = .ok (.iaload, 1) := by decide +kernel
theorem dX11_back_29 : decode cX11_back 29 = .ok (.iastore, 1) := by decide +kernel
theorem dX11_back_30 : decode cX11_back 30 = .ok (.iinc 1 1, 3) := by decide +kernel
theorem dX11_back_33 : decode cX11_back 33 = .ok (.goto (-21), 3) := by decide +kernel
theorem dX11_back_36 : decode cX11_back 36 = .ok (.iconst 0, 1) := by decide +kernel
theorem dX11_back_37 : decode cX11_back 37 = .ok (.istore_n 1, 1) := by decide +kernel
theorem dX11_back_38 : decode cX11_back 38 = .ok (.iload_n 1, 1) := by decide +kernel
theorem dX11_back_39 : decode cX11_back 39 = .ok (.bipush 15, 2) := by decide +kernel
theorem dX11_back_41 : decode cX11_back 41 = .ok (.if_icmp .ge 21, 3) := by decide +kernel
theorem dX11_back_44 : decode cX11_back 44 = .ok (.aload_n 0, 1) := by decide +kernel
theorem dX11_back_45 : decode cX11_back 45 = .ok (.getfield 19, 3) := by decide +kernel
theorem dX11_back_48 : decode cX11_back 48 = .ok (.iload_n 1, 1) := by decide +kernel
theorem dX11_back_49 : decode cX11_back 49 = .ok (.aload_n 0, 1) := by decide +kernel
theorem dX11_back_50 : decode cX11_back 50 = .ok (.getfield 34, 3) := by decide +kernel
theorem dX11_back_53 : decode cX11_back 53 = .ok (.iload_n 1, 1) := by decide +kernel
theorem dX11_back_54 : decode cX11_back 54 = .ok (.iaload, 1) := by decide +kernel
theorem dX11_back_55 : decode cX11_back 55 = .ok (.iastore, 1) := by decide +kernel
theorem dX11_back_56 : decode cX11_back 56 = .ok (.iinc 1 1, 3) := by decide +kernel
theorem dX11_back_59 : decode cX11_back 59 = .ok (.goto (-21), 3) := by decide +kernel
theorem dX11_back_62 : decode cX11_back 62 = .ok (.aload_n 0, 1) := by decide +kernel
theorem dX11_back_63 : decode cX11_back 63 = .ok (.aload_n 0, 1) := by decide +kernel
theorem dX11_back_64 : decode cX11_back 64 = .ok (.getfield 37, 3) := by decide +kernel
theorem dX11_back_67 : decode cX11_back 67 = .ok (.iconst 0, 1) := by decide +kernel
theorem dX11_back_68 : decode cX11_back 68 = .ok (.iaload, 1) := by decide +kernel
theorem dX11_back_69 : decode cX11_back 69 = .ok (.putfield 81, 3) := by decide +kernel
theorem dX11_back_72 : decode cX11_back 72 = .ok (.aload_n 0, 1) := by decide +kernel
theorem dX11_back_73 : decode cX11_back 73 = .ok (.aload_n 0, 1) := by decide +kernel
theorem dX11_back_74 : decode cX11_back 74 = .ok (.getfield 37, 3) := by decide +kernel
theorem dX11_back_77 : decode cX11_back 77 = .ok (.iconst 1, 1) := by decide +kernel
theorem dX11_back_78 : decode cX11_back 78 = .ok (.iaload, 1) := by decide +kernel
theorem dX11_back_79 : decode cX11_back 79 = .ok (.putfield 88, 3) := by decide +kernel
theorem dX11_back_82 : decode cX11_back 82 = .ok (.aload_n 0, 1) := by decide +kernel
theorem dX11_back_83 : decode cX11_back 83 = .ok (.aload_n 0, 1) := by decide +kernel
theorem dX11_back_84 : decode cX11_back 84 = .ok (.getfield 37, 3) := by decide +kernel
theorem dX11_back_87 : decode cX11_back 87 = .ok (.iconst 2, 1) := by decide +kernel
theorem dX11_back_88 : decode cX11_back 88 = .ok (.iaload, 1) := by decide +kernel
theorem dX11_back_89 : decode cX11_back 89 = .ok (.putfield 91, 3) := by decide +kernel
theorem dX11_back_92 : decode cX11_back 92 = .ok (.aload_n 0, 1) := by decide +kernel
theorem dX11_back_93 : decode cX11_back 93 = .ok (.aload_n 0, 1) := by decide +kernel
theorem dX11_back_94 : decode cX11_back 94 = .ok (.getfield 37, 3) := by decide +kernel
theorem dX11_back_97 : decode cX11_back 97 = .ok (.iconst 3, 1) := by decide +kernel
theorem dX11_back_98 : decode cX11_back 98 = .ok (.iaload, 1) := by decide +kernel
theorem dX11_back_99 : decode cX11_back 99 = .ok (.putfield 97, 3) := by decide +kernel
theorem dX11_back_102 : decode cX11_back 102 = .ok (.aload_n 0, 1) := by decide +kernel
theorem dX11_back_103 : decode cX11_back 103 = .ok (.getfield 81, 3) := by decide +kernel
theorem dX11_back_106 : decode cX11_back 106 = .ok (.ireturn, 1) := by decide +kernel
theorem dX11_sheet_0 : decode cX11_sheet 0 = .ok (.iload_n 1, 1) := by decide +kernel
theorem dX11_sheet_1 : decode cX11_sheet 1 = .ok (.iconst 0, 1) := by decide +kernel
theorem dX11_sheet_2 : decode cX11_sheet 2 = .ok (.iconst 3, 1) := by decide +kernel
theorem dX11_sheet_3 : decode cX11_sheet 3 = .ok (.invokestatic 84, 3) := by decide +kernel
theorem dX11_sheet_6 : decode cX11_sheet 6 = .ok (.ifCond .eq 23, 3) := by decide +kernel
theorem dX11_sheet_9 : decode cX11_sheet 9 = .ok (.iload_n 2, 1) := by decide +kernel
theorem dX11_sheet_10 : decode cX11_sheet 10 = .ok (.iconst (-1), 1) := by decide +kernel
theorem dX11_sheet_11 : decode cX11_sheet 11 = .ok (.iconst 2, 1) := by decide +kernel
theorem dX11_sheet_12 : decode cX11_sheet 12 = .ok (.invokestatic 84, 3) := by decide +kernel
theorem dX11_sheet_15 : decode cX11_sheet 15 = .ok (.ifCond .eq 14, 3) := by decide +kernel
theorem dX11_sheet_18 : decode cX11_sheet 18 = .ok (.iload_n 2, 1) := by decide +kernel
theorem dX11_sheet_19 : decode cX11_sheet 19 = .ok (.iconst (-1), 1) := by decide +kernel
theorem dX11_sheet_20 : decode cX11_sheet 20 = .ok (.if_icmp .eq 12, 3) := by decide +kernel
theorem dX11_sheet_23 : decode cX11_sheet 23 = .ok (.iload_n 3, 1) := by decide +kernel
theorem dX11_sheet_24 : decode cX11_sheet 24 = .ok (.bipush 40, 2) := by decide +kernel
theorem dX11_sheet_26 : decode cX11_sheet 26 = .ok (.if_icmp .le 6, 3) := by decide +kernel
theorem dX11_sheet_29 : decode cX11_sheet 29 = .ok (.bipush (-2), 2) := by decide +kernel
theorem dX11_sheet_31 : decode cX11_sheet 31 = .ok (.ireturn, 1) := by decide +kernel
theorem dX11_sheet_32 : decode cX11_sheet 32 = .ok (.iload_n 2, 1) := by decide +kernel
theorem dX11_sheet_33 : decode cX11_sheet 33 = .ok (.iconst (-1), 1) := by decide +kernel
theorem dX11_sheet_34 : decode cX11_sheet 34 = .ok (.if_icmp .eq 10, 3) := by decide +kernel
theorem dX11_sheet_37 : decode cX11_sheet 37 = .ok (.iload_n 3, 1) := by decide +kernel
theorem dX11_sheet_38 : decode cX11_sheet 38 = .ok (.ifCond .ge 6, 3) := by decide +kernel
theorem dX11_sheet_41 : decode cX11_sheet 41 = .ok (.bipush (-14), 2) := by decide +kernel
theorem dX11_sheet_43 : decode cX11_sheet 43 = .ok (.ireturn, 1) := by decide +kernel
theorem dX11_sheet_44 : decode cX11_sheet 44 = .ok (.aload_n 0, 1) := by decide +kernel
theorem dX11_sheet_45 : decode cX11_sheet 45 = .ok (.getfield 40, 3) := by decide +kernel
theorem dX11_sheet_48 : decode cX11_sheet 48 = .ok (.iload_n 1, 1) := by decide +kernel
theorem dX11_sheet_49 : decode cX11_sheet 49 = .ok (.iload_n 2, 1) := by decide +kernel
theorem dX11_sheet_50 : decode cX11_sheet 50 = .ok (.iastore, 1) := by decide +kernel
theorem dX11_sheet_51 : decode cX11_sheet 51 = .ok (.aload_n 0, 1) := by decide +kernel
theorem dX11_sheet_52 : decode cX11_sheet 52 = .ok (.getfield 43, 3) := by decide +kernel
theorem dX11_sheet_55 : decode cX11_sheet 55 = .ok (.iload_n 1, 1) := by decide +kernel
theorem dX11_sheet_56 : decode cX11_sheet 56 = .ok (.iload_n 2, 1) := by decide +kernel
theorem dX11_sheet_57 : decode cX11_sheet 57 = .ok (.iconst (-1), 1) := by decide +kernel
theorem dX11_sheet_58 : decode cX11_sheet 58 = .ok (.if_icmp .ne 7, 3) := by decide +kernel
theorem dX11_sheet_61 : decode cX11_sheet 61 = .ok (.iconst 0, 1) := by decide +kernel
theorem dX11_sheet_62 : decode cX11_sheet 62 = .ok (.goto 4, 3) := by decide +kernel
theorem dX11_sheet_65 : decode cX11_sheet 65 = .ok (.iload_n 3, 1) := by decide +kernel
theorem dX11_sheet_66 : decode cX11_sheet 66 = .ok (.iastore, 1) := by decide +kernel
theorem dX11_sheet_67 : decode cX11_sheet 67 = .ok (.iconst 0, 1) := by decide +kernel
theorem dX11_sheet_68 : decode cX11_sheet 68 = .ok (.istore 4, 2) := by decide +kernel
theorem dX11_sheet_70 : decode cX11_sheet 70 = .ok (.iload 4, 2) := by decide +kernel
theorem dX11_sheet_72 : decode cX11_sheet 72 = .ok (.bipush 40, 2) := by decide +kernel
theorem dX11_sheet_74 : decode cX11_sheet 74 = .ok (.if_icmp .ge 22, 3) := by decide +kernel
theorem dX11_sheet_77 : decode cX11_sheet 77 = .ok (.aload_n 0, 1) := by decide +kernel
theorem dX11_sheet_78 : decode cX11_sheet 78 = .ok (.getfield 46, 3) := by decide +kernel
theorem dX11_sheet_81 : decode cX11_sheet 81 = .ok (.bipush 40, 2) := by decide +kernel
theorem dX11_sheet_83 : decode cX11_sheet 83 = .ok (.iload_n 1, 1) := by decide +kernel
theorem dX11_sheet_84 : decode cX11_sheet 84 = .ok (.imul, 1) := by decide +kernel
theorem dX11_sheet_85 : decode cX11_sheet 85 = .ok (.iload 4, 2) := by decide +kernel
theorem dX11_sheet_87 : decode cX11_sheet 87 = .ok (.iadd, 1) := by decide +kernel
theorem dX11_sheet_88 : decode cX11_sheet 88 = .ok (.iconst 0, 1) := by decide +kernel
theorem dX11_sheet_89 : decode cX11_sheet 89 = .ok (.iastore, 1) := by decide +kernel
theorem dX11_sheet_90 : decode cX11_sheet 90 = .ok (.iinc 4 1, 3) := by decide +kernel
theorem dX11_sheet_93 : decode cX11_sheet 93 = .ok (.goto (-23), 3) := by decide +kernel
theorem dX11_sheet_96 : decode cX11_sheet 96 = .ok (.iconst 1, 1) := by decide +kernel
theorem dX11_sheet_97 : decode cX11_sheet 97 = .ok (.ireturn, 1) := by decide +kernel
theorem dX11_cell_0 : decode cX11_cell 0 = .ok (.iload_n 1, 1) := by decide +kernel
theorem dX11_cell_1 : decode cX11_cell 1 = .ok (.iconst 0, 1) := by decide +kernel
theorem dX11_cell_2 : decode cX11_cell 2 = .ok (.iconst 3, 1) := by decide +kernel
theorem dX11_cell_3 : decode cX11_cell 3 = .ok (.invokestatic 84, 3) := by decide +kernel
theorem dX11_cell_6 : decode cX11_cell 6 = .ok (.ifCond .ne 6, 3) := by decide +kernel
theorem dX11_cell_9 : decode cX11_cell 9 = .ok (.bipush (-2), 2) := by decide +kernel
theorem dX11_cell_11 : decode cX11_cell 11 = .ok (.ireturn, 1) := by decide +kernel
theorem dX11_cell_12 : decode cX11_cell 12 = .ok (.aload_n 0, 1) := by decide +kernel
theorem dX11_cell_13 : decode cX11_cell 13 = .ok (.getfield 40, 3) := by decide +kernel
theorem dX11_cell_16 : decode cX11_cell 16 = .ok (.iload_n 1, 1) := by decide +kernel
theorem dX11_cell_17 : decode cX11_cell 17 = .ok (.iaload, 1) := by decide +kernel
theorem dX11_cell_18 : decode cX11_cell 18 = .ok (.iconst (-1), 1) := by decide +kernel
theorem dX11_cell_19 : decode cX11_cell 19 = .ok (.if_icmp .ne 6, 3) := by decide +kernel
theorem dX11_cell_22 : decode cX11_cell 22 = .ok (.bipush (-11), 2) := by decide +kernel
theorem dX11_cell_24 : decode cX11_cell 24 = .ok (.ireturn, 1) := by decide +kernel
theorem dX11_cell_25 : decode cX11_cell 25 = .ok (.iload_n 2, 1) := by decide +kernel
theorem dX11_cell_26 : decode cX11_cell 26 = .ok (.iconst 0, 1) := by decide +kernel
theorem dX11_cell_27 : decode cX11_cell 27 = .ok (.aload_n 0, 1) := by decide +kernel
theorem dX11_cell_28 : decode cX11_cell 28 = .ok (.getfield 43, 3) := by decide +kernel
theorem dX11_cell_31 : decode cX11_cell 31 = .ok (.iload_n 1, 1) := by decide +kernel
theorem dX11_cell_32 : decode cX11_cell 32 = .ok (.iaload, 1) := by decide +kernel
theorem dX11_cell_33 : decode cX11_cell 33 = .ok (.iconst 1, 1) := by decide +kernel
theorem dX11_cell_34 : decode cX11_cell 34 = .ok (.isub, 1) := by decide +kernel
theorem dX11_cell_35 : decode cX11_cell 35 = .ok (.invokestatic 84, 3) := by decide +kernel
theorem dX11_cell_38 : decode cX11_cell 38 = .ok (.ifCond .ne 6, 3) := by decide +kernel
theorem dX11_cell_41 : decode cX11_cell 41 = .ok (.bipush (-12), 2) := by decide +kernel
theorem dX11_cell_43 : decode cX11_cell 43 = .ok (.ireturn, 1) := by decide +kernel
theorem dX11_cell_44 : decode cX11_cell 44 = .ok (.aload_n 0, 1) := by decide +kernel
theorem dX11_cell_45 : decode cX11_cell 45 = .ok (.getfield 46, 3) := by decide +kernel
theorem dX11_cell_48 : decode cX11_cell 48 = .ok (.bipush 40, 2) := by decide +kernel
theorem dX11_cell_50 : decode cX11_cell 50 = .ok (.iload_n 1, 1) := by decide +kernel
theorem dX11_cell_51 : decode cX11_cell 51 = .ok (.imul, 1) := by decide +kernel
theorem dX11_cell_52 : decode cX11_cell 52 = .ok (.iload_n 2, 1) := by decide +kernel
theorem dX11_cell_53 : decode cX11_cell 53 = .ok (.iadd, 1) := by decide +kernel
theorem dX11_cell_54 : decode cX11_cell 54 = .ok (.aload_n 0, 1) := by decide +kernel
theorem dX11_cell_55 : decode cX11_cell 55 = .ok (.getfield 40, 3) := by decide +kernel
theorem dX11_cell_58 : decode cX11_cell 58 = .ok (.iload_n 1, 1) := by decide +kernel
theorem dX11_cell_59 : decode cX11_cell 59 = .ok (.iaload, 1) := by decide +kernel
theorem dX11_cell_60 : decode cX11_cell 60 = .ok (.ifCond .ne 8, 3) := by decide +kernel
theorem dX11_cell_63 : decode cX11_cell 63 = .ok (.iload_n 3, 1) := by decide +kernel
theorem dX11_cell_64 : decode cX11_cell 64 = .ok (.i2b, 1) := by decide +kernel
theorem dX11_cell_65 : decode cX11_cell 65 = .ok (.goto 19, 3) := by decide +kernel
theorem dX11_cell_68 : decode cX11_cell 68 = .ok (.aload_n 0, 1) := by decide +kernel
theorem dX11_cell_69 : decode cX11_cell 69 = .ok (.getfield 40, 3) := by decide +kernel
theorem dX11_cell_72 : decode cX11_cell 72 = .ok (.iload_n 1, 1) := by decide +kernel
theorem dX11_cell_73 : decode cX11_cell 73 = .ok (.iaload, 1) := by decide +kernel
theorem dX11_cell_74 : decode cX11_cell 74 = .ok (.iconst 1, 1) := by decide +kernel
theorem dX11_cell_75 : decode cX11_cell 75 = .ok (.if_icmp .ne 8, 3) := by decide +kernel
theorem dX11_cell_78 : decode cX11_cell 78 = .ok (.iload_n 3, 1) := by decide +kernel
theorem dX11_cell_79 : decode cX11_cell 79 = .ok (.i2s, 1) := by decide +kernel
theorem dX11_cell_80 : decode cX11_cell 80 = .ok (.goto 4, 3) := by decide +kernel
theorem dX11_cell_83 : decode cX11_cell 83 = .ok (.iload_n 3, 1) := by decide +kernel
theorem dX11_cell_84 : decode cX11_cell 84 = .ok (.iastore, 1) := by decide +kernel
theorem dX11_cell_85 : decode cX11_cell 85 = .ok (.iconst 1, 1) := by decide +kernel
theorem dX11_cell_86 : decode cX11_cell 86 = .ok (.ireturn, 1) := by decide +kernel
theorem dX11_copy_0 : decode cX11_copy 0 = .ok (.iload_n 1, 1) := by decide +kernel
theorem dX11_copy_1 : decode cX11_copy 1 = .ok (.iconst 0, 1) := by decide +kernel
theorem dX11_copy_2 : decode cX11_copy 2 = .ok (.iconst 3, 1) := by decide +kernel
theorem dX11_copy_3 : decode cX11_copy 3 = .ok (.invokestatic 84, 3) := by decide +kernel
theorem dX11_copy_6 : decode cX11_copy 6 = .ok (.ifCond .eq 12, 3) := by decide +kernel
theorem dX11_copy_9 : decode cX11_copy 9 = .ok (.iload_n 3, 1) := by decide +kernel
theorem dX11_copy_10 : decode cX11_copy 10 = .ok (.iconst 0, 1) := by decide +kernel
theorem dX11_copy_11 : decode cX11_copy 11 = .ok (.iconst 3, 1) := by decide +kernel
theorem dX11_copy_12 : decode cX11_copy 12 = .ok (.invokestatic 84, 3) := by decide +kernel
theorem dX11_copy_15 : decode cX11_copy 15 = .ok (.ifCond .ne 6, 3) := by decide +kernel
theorem dX11_copy_18 : decode cX11_copy 18 = .ok (.bipush (-2), 2) := by decide +kernel
theorem dX11_copy_20 : decode cX11_copy 20 = .ok (.ireturn, 1) := by decide +kernel
theorem dX11_copy_21 : decode cX11_copy 21 = .ok (.aload_n 0, 1) := by decide +kernel
theorem dX11_copy_22 : decode cX11_copy 22 = .ok (.getfield 40, 3) := by decide +kernel
theorem dX11_copy_25 : decode cX11_copy 25 = .ok (.iload_n 1, 1) := by decide +kernel
theorem dX11_copy_26 : decode cX11_copy 26 = .ok (.iaload, 1) := by decide +kernel
theorem dX11_copy_27 : decode cX11_copy 27 = .ok (.iconst (-1), 1) := by decide +kernel
theorem dX11_copy_28 : decode cX11_copy 28 = .ok (.if_icmp .eq 13, 3) := by decide +kernel
theorem dX11_copy_31 : decode cX11_copy 31 = .ok (.aload_n 0, 1) := by decide +kernel
theorem dX11_copy_32 : decode cX11_copy 32 = .ok (.getfield 40, 3) := by decide +kernel
theorem dX11_copy_35 : decode cX11_copy 35 = .ok (.iload_n 3, 1) := by decide +kernel
theorem dX11_copy_36 : decode cX11_copy 36 = .ok (.iaload, 1) := by decide +kernel
theorem dX11_copy_37 : decode cX11_copy 37 = .ok (.iconst (-1), 1) := by decide +kernel
theorem dX11_copy_38 : decode cX11_copy 38 = .ok (.if_icmp .ne 6, 3) := by decide +kernel
theorem dX11_copy_41 : decode cX11_copy 41 = .ok (.bipush (-11), 2) := by decide +kernel
theorem dX11_copy_43 : decode cX11_copy 43 = .ok (.ireturn, 1) := by decide +kernel
theorem dX11_copy_44 : decode cX11_copy 44 = .ok (.aload_n 0, 1) := by decide +kernel
theorem dX11_copy_45 : decode cX11_copy 45 = .ok (.getfield 40, 3) := by decide +kernel
theorem dX11_copy_48 : decode cX11_copy 48 = .ok (.iload_n 1, 1) := by decide +kernel
theorem dX11_copy_49 : decode cX11_copy 49 = .ok (.iaload, 1) := by decide +kernel
theorem dX11_copy_50 : decode cX11_copy 50 = .ok (.aload_n 0, 1) := by decide +kernel
theorem dX11_copy_51 : decode cX11_copy 51 = .ok (.getfield 40, 3) := by decide +kernel
theorem dX11_copy_54 : decode cX11_copy 54 = .ok (.iload_n 3, 1) := by decide +kernel
theorem dX11_copy_55 : decode cX11_copy 55 = .ok (.iaload, 1) := by decide +kernel
theorem dX11_copy_56 : decode cX11_copy 56 = .ok (.if_icmp .eq 6, 3) := by decide +kernel
theorem dX11_copy_59 : decode cX11_copy 59 = .ok (.bipush (-13), 2) := by decide +kernel
theorem dX11_copy_61 : decode cX11_copy 61 = .ok (.ireturn, 1) := by decide +kernel
theorem dX11_copy_62 : decode cX11_copy 62 = .ok (.iload 5, 2) := by decide +kernel
theorem dX11_copy_64 : decode cX11_copy 64 = .ok (.ifCond .lt 60, 3) := by decide +kernel
theorem dX11_copy_67 : decode cX11_copy 67 = .ok (.iload_n 2, 1) := by decide +kernel
theorem dX11_copy_68 : decode cX11_copy 68 = .ok (.ifCond .lt 56, 3) := by decide +kernel
theorem dX11_copy_71 : decode cX11_copy 71 = .ok (.iload 4, 2) := by decide +kernel
theorem dX11_copy_73 : decode cX11_copy 73 = .ok (.ifCond .lt 51, 3) := by decide +kernel
theorem dX11_copy_76 : decode cX11_copy 76 = .ok (.iload_n 2, 1) := by decide +kernel
theorem dX11_copy_77 : decode cX11_copy 77 = .ok (.aload_n 0, 1) := by decide +kernel
theorem dX11_copy_78 : decode cX11_copy 78 = .ok (.getfield 43, 3) := by decide +kernel
theorem dX11_copy_81 : decode cX11_copy 81 = .ok (.iload_n 1, 1) := by decide +kernel
theorem dX11_copy_82 : decode cX11_copy 82 = .ok (.iaload, 1) := by decide +kernel
theorem dX11_copy_83 : decode cX11_copy 83 = .ok (.if_icmp .gt 41, 3) := by decide +kernel
theorem dX11_copy_86 : decode cX11_copy 86 = .ok (.iload 4, 2) := by decide +kernel
theorem dX11_copy_88 : decode cX11_copy 88 = .ok (.aload_n 0, 1) := by decide +kernel
theorem dX11_copy_89 : decode cX11_copy 89 = .ok (.getfield 43, 3) := by decide +kernel
theorem dX11_copy_92 : decode cX11_copy 92 = .ok (.iload_n 3, 1) := by decide +kernel
theorem dX11_copy_93 : decode cX11_copy 93 = .ok (.iaload, 1) := by decide +kernel
theorem dX11_copy_94 : decode cX11_copy 94 = .ok (.if_icmp .gt 30, 3) := by decide +kernel
theorem dX11_copy_97 : decode cX11_copy 97 = .ok (.iload 5, 2) := by decide +kernel
theorem dX11_copy_99 : decode cX11_copy 99 = .ok (.aload_n 0, 1) := by decide +kernel
theorem dX11_copy_100 : decode cX11_copy 100 = .ok (.getfield 43, 3) := by decide +kernel
theorem dX11_copy_103 : decode cX11_copy 103 = .ok (.iload_n 1, 1) := by decide +kernel
theorem dX11_copy_104 : decode cX11_copy 104 = .ok (.iaload, 1) := by decide +kernel
theorem dX11_copy_105 : decode cX11_copy 105 = .ok (.iload_n 2, 1) := by decide +kernel
theorem dX11_copy_106 : decode cX11_copy 106 = .ok (.isub, 1) := by decide +kernel
theorem dX11_copy_107 : decode cX11_copy 107 = .ok (.if_icmp .gt 17, 3) := by decide +kernel
theorem dX11_copy_110 : decode cX11_copy 110 = .ok (.iload 5, 2) := by decide +kernel
theorem dX11_copy_112 : decode cX11_copy 112 = .ok (.aload_n 0, 1) := by decide +kernel
theorem dX11_copy_113 : decode cX11_copy 113 = .ok (.getfield 43, 3) := by decide +kernel
theorem dX11_copy_116 : decode cX11_copy 116 = .ok (.iload_n 3, 1) := by decide +kernel
theorem dX11_copy_117 : decode cX11_copy 117 = .ok (.iaload, 1) := by decide +kernel
theorem dX11_copy_118 : decode cX11_copy 118 = .ok (.iload 4, 2) := by decide +kernel
theorem dX11_copy_120 : decode cX11_copy 120 = .ok (.isub, 1) := by decide +kernel
theorem dX11_copy_121 : decode cX11_copy 121 = .ok (.if_icmp .le 6, 3) := by decide +kernel
theorem dX11_copy_124 : decode cX11_copy 124 = .ok (.bipush (-12), 2) := by decide +kernel
theorem dX11_copy_126 : decode cX11_copy 126 = .ok (.ireturn, 1) := by decide +kernel
theorem dX11_copy_127 : decode cX11_copy 127 = .ok (.bipush 40, 2) := by decide +kernel
theorem dX11_copy_129 : decode cX11_copy 129 = .ok (.iload_n 1, 1) := by decide +kernel
theorem dX11_copy_130 : decode cX11_copy 130 = .ok (.imul, 1) := by decide +kernel
theorem dX11_copy_131 : decode cX11_copy 131 = .ok (.iload_n 2, 1) := by decide +kernel
theorem dX11_copy_132 : decode cX11_copy 132 = .ok (.iadd, 1) := by decide +kernel
theorem dX11_copy_133 : decode cX11_copy 133 = .ok (.istore 6, 2) := by decide +kernel
theorem dX11_copy_135 : decode cX11_copy 135 = .ok (.bipush 40, 2) := by decide +kernel
theorem dX11_copy_137 : decode cX11_copy 137 = .ok (.iload_n 3, 1) := by decide +kernel
theorem dX11_copy_138 : decode cX11_copy 138 = .ok (.imul, 1) := by decide +kernel
theorem dX11_copy_139 : decode cX11_copy 139 = .ok (.iload 4, 2) := by decide +kernel
theorem dX11_copy_141 : decode cX11_copy 141 = .ok (.iadd, 1) := by decide +kernel
theorem dX11_copy_142 : decode cX11_copy 142 = .ok (.istore 7, 2) := by decide +kernel
theorem dX11_copy_144 : decode cX11_copy 144 = .ok (.iconst 0, 1) := by decide +kernel
theorem dX11_copy_145 : decode cX11_copy 145 = .ok (.istore 8, 2) := by decide +kernel
theorem dX11_copy_147 : decode cX11_copy 147 = .ok (.iload 8, 2) := by decide +kernel
theorem dX11_copy_149 : decode cX11_copy 149 = .ok (.iload 5, 2) := by decide +kernel
theorem dX11_copy_151 : decode cX11_copy 151 = .ok (.if_icmp .ge 50, 3) := by decide +kernel
theorem dX11_copy_154 : decode cX11_copy 154 = .ok (.iload 6, 2) := by decide +kernel
theorem dX11_copy_156 : decode cX11_copy 156 = .ok (.iload 7, 2) := by decide +kernel
theorem dX11_copy_158 : decode cX11_copy 158 = .ok (.if_icmp .ge 13, 3) := by decide +kernel
theorem dX11_copy_161 : decode cX11_copy 161 = .ok (.iload 5, 2) := by decide +kernel
theorem dX11_copy_163 : decode cX11_copy 163 = .ok (.iconst 1, 1) := by decide +kernel
theorem dX11_copy_164 : decode cX11_copy 164 = .ok (.isub, 1) := by decide +kernel
theorem dX11_copy_165 : decode cX11_copy 165 = .ok (.iload 8, 2) := by decide +kernel
theorem dX11_copy_167 : decode cX11_copy 167 = .ok (.isub, 1) := by decide +kernel
theorem dX11_copy_168 : decode cX11_copy 168 = .ok (.goto 5, 3) := by decide +kernel
theorem dX11_copy_171 : decode cX11_copy 171 = .ok (.iload 8, 2) := by decide +kernel
theorem dX11_copy_173 : decode cX11_copy 173 = .ok (.istore 9, 2) := by decide +kernel
theorem dX11_copy_175 : decode cX11_copy 175 = .ok (.aload_n 0, 1) := by decide +kernel
theorem dX11_copy_176 : decode cX11_copy 176 = .ok (.getfield 46, 3) := by decide +kernel
theorem dX11_copy_179 : decode cX11_copy 179 = .ok (.iload 7, 2) := by decide +kernel
theorem dX11_copy_181 : decode cX11_copy 181 = .ok (.iload 9, 2) := by decide +kernel
theorem dX11_copy_183 : decode cX11_copy 183 = .ok (.iadd, 1) := by decide +kernel
theorem dX11_copy_184 : decode cX11_copy 184 = .ok (.aload_n 0, 1) := by decide +kernel
theorem dX11_copy_185 : decode cX11_copy 185 = .ok (.getfield 46, 3) := by decide +kernel
theorem dX11_copy_188 : decode cX11_copy 188 = .ok (.iload 6, 2) := by decide +kernel
theorem dX11_copy_190 : decode cX11_copy 190 = .ok (.iload 9, 2) := by decide +kernel
theorem dX11_copy_192 : decode cX11_copy 192 = .ok (.iadd, 1) := by decide +kernel
theorem dX11_copy_193 : decode cX11_copy 193 = .ok (.iaload, 1) := by decide +kernel
theorem dX11_copy_194 : decode cX11_copy 194 = .ok (.iastore, 1) := by decide +kernel
theorem dX11_copy_195 : decode cX11_copy 195 = .ok (.iinc 8 1, 3) := by decide +kernel
theorem dX11_copy_198 : decode cX11_copy 198 = .ok (.goto (-51), 3) := by decide +kernel
theorem dX11_copy_201 : decode cX11_copy 201 = .ok (.iload 5, 2) := by decide +kernel
theorem dX11_copy_203 : decode cX11_copy 203 = .ok (.ireturn, 1) := by decide +kernel
theorem dX11_eatersBy_0 : decode cX11_eatersBy 0 = .ok (.iload_n 1, 1) := by decide +kernel
theorem dX11_eatersBy_1 : decode cX11_eatersBy 1 = .ok (.iconst 0, 1) := by decide +kernel
theorem dX11_eatersBy_2 : decode cX11_eatersBy 2 = .ok (.iconst 3, 1) := by decide +kernel
theorem dX11_eatersBy_3 : decode cX11_eatersBy 3 = .ok (.invokestatic 84, 3) := by decide +kernel
theorem dX11_eatersBy_6 : decode cX11_eatersBy 6 = .ok (.ifCond .eq 22, 3) := by decide +kernel
theorem dX11_eatersBy_9 : decode cX11_eatersBy 9 = .ok (.iload_n 2, 1) := by decide +kernel
theorem dX11_eatersBy_10 : decode cX11_eatersBy 10 = .ok (.iconst 0, 1) := by decide +kernel
theorem dX11_eatersBy_11 : decode cX11_eatersBy 11 = .ok (.iconst 2, 1) := by decide +kernel
theorem dX11_eatersBy_12 : decode cX11_eatersBy 12 = .ok (.invokestatic 84, 3) := by decide +kernel
theorem dX11_eatersBy_15 : decode cX11_eatersBy 15 = .ok (.ifCond .eq 13, 3) := by decide +kernel
theorem dX11_eatersBy_18 : decode cX11_eatersBy 18 = .ok (.iload 4, 2) := by decide +kernel
theorem dX11_eatersBy_20 : decode cX11_eatersBy 20 = .ok (.iconst 0, 1) := by decide +kernel
theorem dX11_eatersBy_21 : decode cX11_eatersBy 21 = .ok (.iconst 5, 1) := by decide +kernel
theorem dX11_eatersBy_22 : decode cX11_eatersBy 22 = .ok (.invokestatic 84, 3) := by decide +kernel
theorem dX11_eatersBy_25 : decode cX11_eatersBy 25 = .ok (.ifCond .ne 6, 3) := by decide +kernel
theorem dX11_eatersBy_28 : decode cX11_eatersBy 28 = .ok (.bipush (-2), 2) := by decide +kernel
theorem dX11_eatersBy_30 : decode cX11_eatersBy 30 = .ok (.ireturn, 1) := by decide +kernel
theorem dX11_eatersBy_31 : decode cX11_eatersBy 31 = .ok (.aload_n 0, 1) := by decide +kernel
theorem dX11_eatersBy_32 : decode cX11_eatersBy 32 = .ok (.getfield 40, 3) := by decide +kernel
theorem dX11_eatersBy_35 : decode cX11_eatersBy 35 = .ok (.iload_n 1, 1) := by decide +kernel
theorem dX11_eatersBy_36 : decode cX11_eatersBy 36 = .ok (.iaload, 1) := by decide +kernel
theorem dX11_eatersBy_37 : decode cX11_eatersBy 37 = .ok (.iconst (-1), 1) := by decide +kernel
theorem dX11_eatersBy_38 : decode cX11_eatersBy 38 = .ok (.if_icmp .ne 6, 3) := by decide +kernel
theorem dX11_eatersBy_41 : decode cX11_eatersBy 41 = .ok (.bipush (-11), 2) := by decide +kernel
theorem dX11_eatersBy_43 : decode cX11_eatersBy 43 = .ok (.ireturn, 1) := by decide +kernel
theorem dX11_eatersBy_44 : decode cX11_eatersBy 44 = .ok (.aload_n 0, 1) := by decide +kernel
theorem dX11_eatersBy_45 : decode cX11_eatersBy 45 = .ok (.getfield 40, 3) := by decide +kernel
theorem dX11_eatersBy_48 : decode cX11_eatersBy 48 = .ok (.iload_n 1, 1) := by decide +kernel
theorem dX11_eatersBy_49 : decode cX11_eatersBy 49 = .ok (.iaload, 1) := by decide +kernel
theorem dX11_eatersBy_50 : decode cX11_eatersBy 50 = .ok (.iload_n 2, 1) := by decide +kernel
theorem dX11_eatersBy_51 : decode cX11_eatersBy 51 = .ok (.if_icmp .eq 6, 3) := by decide +kernel
theorem dX11_eatersBy_54 : decode cX11_eatersBy 54 = .ok (.bipush (-13), 2) := by decide +kernel
theorem dX11_eatersBy_56 : decode cX11_eatersBy 56 = .ok (.ireturn, 1) := by decide +kernel
theorem dX11_eatersBy_57 : decode cX11_eatersBy 57 = .ok (.iconst 0, 1) := by decide +kernel
theorem dX11_eatersBy_58 : decode cX11_eatersBy 58 = .ok (.istore 5, 2) := by decide +kernel
theorem dX11_eatersBy_60 : decode cX11_eatersBy 60 = .ok (.iconst 0, 1) := by decide +kernel
theorem dX11_eatersBy_61 : decode cX11_eatersBy 61 = .ok (.istore 6, 2) := by decide +kernel
theorem dX11_eatersBy_63 : decode cX11_eatersBy 63 = .ok (.iload 6, 2) := by decide +kernel
theorem dX11_eatersBy_65 : decode cX11_eatersBy 65 = .ok (.iload 4, 2) := by decide +kernel
theorem dX11_eatersBy_67 : decode cX11_eatersBy 67 = .ok (.if_icmp .ge 85, 3) := by decide +kernel
theorem dX11_eatersBy_70 : decode cX11_eatersBy 70 = .ok (.iload_n 3, 1) := by decide +kernel
theorem dX11_eatersBy_71 : decode cX11_eatersBy 71 = .ok (.iconst 2, 1) := by decide +kernel
theorem dX11_eatersBy_72 : decode cX11_eatersBy 72 = .ok (.iload 6, 2) := by decide +kernel
theorem dX11_eatersBy_74 : decode cX11_eatersBy 74 = .ok (.imul, 1) := by decide +kernel
theorem dX11_eatersBy_75 : decode cX11_eatersBy 75 = .ok (.iadd, 1) := by decide +kernel
theorem dX11_eatersBy_76 : decode cX11_eatersBy 76 = .ok (.istore 7, 2) := by decide +kernel
theorem dX11_eatersBy_78 : decode cX11_eatersBy 78 = .ok (.iload_n 3, 1) := by decide +kernel
theorem dX11_eatersBy_79 : decode cX11_eatersBy 79 = .ok (.ifCond .lt 22, 3) := by decide +kernel
theorem dX11_eatersBy_82 : decode cX11_eatersBy 82 = .ok (.iload 7, 2) := by decide +kernel
theorem dX11_eatersBy_84 : decode cX11_eatersBy 84 = .ok (.iload_n 3, 1) := by decide +kernel
theorem dX11_eatersBy_85 : decode cX11_eatersBy 85 = .ok (.if_icmp .lt 16, 3) := by decide +kernel
theorem dX11_eatersBy_88 : decode cX11_eatersBy 88 = .ok (.iload 7, 2) := by decide +kernel
theorem dX11_eatersBy_90 : decode cX11_eatersBy 90 = .ok (.aload_n 0, 1) := by decide +kernel
theorem dX11_eatersBy_91 : decode cX11_eatersBy 91 = .ok (.getfield 43, 3) := by decide +kernel
theorem dX11_eatersBy_94 : decode cX11_eatersBy 94 = .ok (.iload_n 1, 1) := by decide +kernel
theorem dX11_eatersBy_95 : decode cX11_eatersBy 95 = .ok (.iaload, 1) := by decide +kernel
theorem dX11_eatersBy_96 : decode cX11_eatersBy 96 = .ok (.iconst 2, 1) := by decide +kernel
theorem dX11_eatersBy_97 : decode cX11_eatersBy 97 = .ok (.isub, 1) := by decide +kernel
theorem dX11_eatersBy_98 : decode cX11_eatersBy 98 = .ok (.if_icmp .le 6, 3) := by decide +kernel
theorem dX11_eatersBy_101 : decode cX11_eatersBy 101 = .ok (.bipush (-12), 2) := by decide +kernel
theorem dX11_eatersBy_103 : decode cX11_eatersBy 103 = .ok (.ireturn, 1) := by decide +kernel
theorem dX11_eatersBy_104 : decode cX11_eatersBy 104 = .ok (.bipush 40, 2) := by decide +kernel
theorem dX11_eatersBy_106 : decode cX11_eatersBy 106 = .ok (.iload_n 1, 1) := by decide +kernel
theorem dX11_eatersBy_107 : decode cX11_eatersBy 107 = .ok (.imul, 1) := by decide +kernel
theorem dX11_eatersBy_108 : decode cX11_eatersBy 108 = .ok (.iload 7, 2) := by decide +kernel
theorem dX11_eatersBy_110 : decode cX11_eatersBy 110 = .ok (.iadd, 1) := by decide +kernel
theorem dX11_eatersBy_111 : decode cX11_eatersBy 111 = .ok (.istore 8, 2) := by decide +kernel
theorem dX11_eatersBy_113 : decode cX11_eatersBy 113 = .ok (.iload 5, 2) := by decide +kernel
theorem dX11_eatersBy_115 : decode cX11_eatersBy 115 = .ok (.aload_n 0, 1) := by decide +kernel
theorem dX11_eatersBy_116 : decode cX11_eatersBy 116 = .ok (.aload_n 0, 1) := by decide +kernel
theorem dX11_eatersBy_117 : decode cX11_eatersBy 117 = .ok (.getfield 46, 3) := by decide +kernel
theorem dX11_eatersBy_120 : decode cX11_eatersBy 120 = .ok (.iload 8, 2) := by decide +kernel
theorem dX11_eatersBy_122 : decode cX11_eatersBy 122 = .ok (.iaload, 1) := by decide +kernel
theorem dX11_eatersBy_123 : decode cX11_eatersBy 123 = .ok (.aload_n 0, 1) := by decide +kernel
theorem dX11_eatersBy_124 : decode cX11_eatersBy 124 = .ok (.getfield 46, 3) := by decide +kernel
theorem dX11_eatersBy_127 : decode cX11_eatersBy 127 = .ok (.iload 8, 2) := by decide +kernel
theorem dX11_eatersBy_129 : decode cX11_eatersBy 129 = .ok (.iconst 1, 1) := by decide +kernel
theorem dX11_eatersBy_130 : decode cX11_eatersBy 130 = .ok (.iadd, 1) := by decide +kernel
theorem dX11_eatersBy_131 : decode cX11_eatersBy 131 = .ok (.iaload, 1) := by decide +kernel
theorem dX11_eatersBy_132 : decode cX11_eatersBy 132 = .ok (.invokevirtual 293, 3) := by decide +kernel
theorem dX11_eatersBy_135 : decode cX11_eatersBy 135 = .ok (.ifCond .lt 7, 3) := by decide +kernel
theorem dX11_eatersBy_138 : decode cX11_eatersBy 138 = .ok (.iconst 1, 1) := by decide +kernel
theorem dX11_eatersBy_139 : decode cX11_eatersBy 139 = .ok (.goto 4, 3) := by decide +kernel
theorem dX11_eatersBy_142 : decode cX11_eatersBy 142 = .ok (.iconst 0, 1) := by decide +kernel
theorem dX11_eatersBy_143 : decode cX11_eatersBy 143 = .ok (.iadd, 1) := by decide +kernel
theorem dX11_eatersBy_144 : decode cX11_eatersBy 144 = .ok (.istore 5, 2) := by decide +kernel
theorem dX11_eatersBy_146 : decode cX11_eatersBy 146 = .ok (.iinc 6 1, 3) := by decide +kernel
theorem dX11_eatersBy_149 : decode cX11_eatersBy 149 = .ok (.goto (-86), 3) := by decide +kernel
theorem dX11_eatersBy_152 : decode cX11_eatersBy 152 = .ok (.iload 5, 2) := by decide +kernel
theorem dX11_eatersBy_154 : decode cX11_eatersBy 154 = .ok (.ireturn, 1) := by decide +kernel
theorem dX11_isUnder_0 : decode cX11_isUnder 0 = .ok (.iload_n 1, 1) := by decide +kernel
theorem dX11_isUnder_1 : decode cX11_isUnder 1 = .ok (.ifCond .eq 28, 3) := by decide +kernel
theorem dX11_isUnder_4 : decode cX11_isUnder 4 = .ok (.iload_n 0, 1) := by decide +kernel
theorem dX11_isUnder_5 : decode cX11_isUnder 5 = .ok (.iload_n 1, 1) := by decide +kernel
theorem dX11_isUnder_6 : decode cX11_isUnder 6 = .ok (.if_icmp .eq 23, 3) := by decide +kernel
theorem dX11_isUnder_9 : decode cX11_isUnder 9 = .ok (.iload_n 1, 1) := by decide +kernel
theorem dX11_isUnder_10 : decode cX11_isUnder 10 = .ok (.iconst 1, 1) := by decide +kernel
theorem dX11_isUnder_11 : decode cX11_isUnder 11 = .ok (.if_icmp .ne 8, 3) := by decide +kernel
theorem dX11_isUnder_14 : decode cX11_isUnder 14 = .ok (.iload_n 0, 1) := by decide +kernel
theorem dX11_isUnder_15 : decode cX11_isUnder 15 = .ok (.iconst 3, 1) := by decide +kernel
theorem dX11_isUnder_16 : decode cX11_isUnder 16 = .ok (.if_icmp .eq 13, 3) := by decide +kernel
theorem dX11_isUnder_19 : decode cX11_isUnder 19 = .ok (.iload_n 1, 1) := by decide +kernel
theorem dX11_isUnder_20 : decode cX11_isUnder 20 = .ok (.iconst 2, 1) := by decide +kernel
theorem dX11_isUnder_21 : decode cX11_isUnder 21 = .ok (.if_icmp .ne 12, 3) := by decide +kernel
theorem dX11_isUnder_24 : decode cX11_isUnder 24 = .ok (.iload_n 0, 1) := by decide +kernel
theorem dX11_isUnder_25 : decode cX11_isUnder 25 = .ok (.iconst 4, 1) := by decide +kernel
theorem dX11_isUnder_26 : decode cX11_isUnder 26 = .ok (.if_icmp .ne 7, 3) := by decide +kernel
theorem dX11_isUnder_29 : decode cX11_isUnder 29 = .ok (.iconst 1, 1) := by decide +kernel
theorem dX11_isUnder_30 : decode cX11_isUnder 30 = .ok (.goto 4, 3) := by decide +kernel
theorem dX11_isUnder_33 : decode cX11_isUnder 33 = .ok (.iconst 0, 1) := by decide +kernel
theorem dX11_isUnder_34 : decode cX11_isUnder 34 = .ok (.ireturn, 1) := by decide +kernel
theorem dX11_taken_0 : decode cX11_taken 0 = .ok (.iload_n 2, 1) := by decide +kernel
theorem dX11_taken_1 : decode cX11_taken 1 = .ok (.iconst 0, 1) := by decide +kernel
theorem dX11_taken_2 : decode cX11_taken 2 = .ok (.bipush 6, 2) := by decide +kernel
theorem dX11_taken_4 : decode cX11_taken 4 = .ok (.invokestatic 84, 3) := by decide +kernel
theorem dX11_taken_7 : decode cX11_taken 7 = .ok (.ifCond .ne 6, 3) := by decide +kernel
theorem dX11_taken_10 : decode cX11_taken 10 = .ok (.bipush (-2), 2) := by decide +kernel
theorem dX11_taken_12 : decode cX11_taken 12 = .ok (.ireturn, 1) := by decide +kernel
theorem dX11_taken_13 : decode cX11_taken 13 = .ok (.iload_n 1, 1) := by decide +kernel
theorem dX11_taken_14 : decode cX11_taken 14 = .ok (.iconst 0, 1) := by decide +kernel
theorem dX11_taken_15 : decode cX11_taken 15 = .ok (.bipush 10, 2) := by decide +kernel
theorem dX11_taken_17 : decode cX11_taken 17 = .ok (.invokestatic 84, 3) := by decide +kernel
theorem dX11_taken_20 : decode cX11_taken 20 = .ok (.ifCond .ne 6, 3) := by decide +kernel
theorem dX11_taken_23 : decode cX11_taken 23 = .ok (.bipush (-12), 2) := by decide +kernel
theorem dX11_taken_25 : decode cX11_taken 25 = .ok (.ireturn, 1) := by decide +kernel
theorem dX11_taken_26 : decode cX11_taken 26 = .ok (.iload_n 1, 1) := by decide +kernel
theorem dX11_taken_27 : decode cX11_taken 27 = .ok (.iconst 5, 1) := by decide +kernel
theorem dX11_taken_28 : decode cX11_taken 28 = .ok (.if_icmp .lt 37, 3) := by decide +kernel
theorem dX11_taken_31 : decode cX11_taken 31 = .ok (.iload_n 1, 1) := by decide +kernel
theorem dX11_taken_32 : decode cX11_taken 32 = .ok (.iconst 5, 1) := by decide +kernel
theorem dX11_taken_33 : decode cX11_taken 33 = .ok (.isub, 1) := by decide +kernel
theorem dX11_taken_34 : decode cX11_taken 34 = .ok (.aload_n 0, 1) := by decide +kernel
theorem dX11_taken_35 : decode cX11_taken 35 = .ok (.getfield 88, 3) := by decide +kernel
theorem dX11_taken_38 : decode cX11_taken 38 = .ok (.if_icmp .lt 8, 3) := by decide +kernel
theorem dX11_taken_41 : decode cX11_taken 41 = .ok (.bipush (-11), 2) := by decide +kernel
theorem dX11_taken_43 : decode cX11_taken 43 = .ok (.goto 21, 3) := by decide +kernel
theorem dX11_taken_46 : decode cX11_taken 46 = .ok (.iload_n 2, 1) := by decide +kernel
theorem dX11_taken_47 : decode cX11_taken 47 = .ok (.bipush 6, 2) := by decide +kernel
theorem dX11_taken_49 : decode cX11_taken 49 = .ok (.if_icmp .ne 13, 3) := by decide +kernel
theorem dX11_taken_52 : decode cX11_taken 52 = .ok (.aload_n 0, 1) := by decide +kernel
theorem dX11_taken_53 : decode cX11_taken 53 = .ok (.iload_n 1, 1) := by decide +kernel
theorem dX11_taken_54 : decode cX11_taken 54 = .ok (.iconst 5, 1) := by decide +kernel
theorem dX11_taken_55 : decode cX11_taken 55 = .ok (.isub, 1) := by decide +kernel
theorem dX11_taken_56 : decode cX11_taken 56 = .ok (.invokevirtual 167, 3) := by decide +kernel
theorem dX11_taken_59 : decode cX11_taken 59 = .ok (.goto 5, 3) := by decide +kernel
theorem dX11_taken_62 : decode cX11_taken 62 = .ok (.bipush (-13), 2) := by decide +kernel
theorem dX11_taken_64 : decode cX11_taken 64 = .ok (.ireturn, 1) := by decide +kernel
theorem dX11_taken_65 : decode cX11_taken 65 = .ok (.iload_n 1, 1) := by decide +kernel
theorem dX11_taken_66 : decode cX11_taken 66 = .ok (.aload_n 0, 1) := by decide +kernel
theorem dX11_taken_67 : decode cX11_taken 67 = .ok (.getfield 81, 3) := by decide +kernel
theorem dX11_taken_70 : decode cX11_taken 70 = .ok (.if_icmp .lt 8, 3) := by decide +kernel
theorem dX11_taken_73 : decode cX11_taken 73 = .ok (.bipush (-11), 2) := by decide +kernel
theorem dX11_taken_75 : decode cX11_taken 75 = .ok (.goto 28, 3) := by decide +kernel
theorem dX11_taken_78 : decode cX11_taken 78 = .ok (.iload_n 2, 1) := by decide +kernel
theorem dX11_taken_79 : decode cX11_taken 79 = .ok (.bipush 6, 2) := by decide +kernel
theorem dX11_taken_81 : decode cX11_taken 81 = .ok (.if_icmp .ge 20, 3) := by decide +kernel
theorem dX11_taken_84 : decode cX11_taken 84 = .ok (.aload_n 0, 1) := by decide +kernel
theorem dX11_taken_85 : decode cX11_taken 85 = .ok (.getfield 13, 3) := by decide +kernel
theorem dX11_taken_88 : decode cX11_taken 88 = .ok (.iload_n 1, 1) := by decide +kernel
theorem dX11_taken_89 : decode cX11_taken 89 = .ok (.iaload, 1) := by decide +kernel
theorem dX11_taken_90 : decode cX11_taken 90 = .ok (.iload_n 2, 1) := by decide +kernel
theorem dX11_taken_91 : decode cX11_taken 91 = .ok (.invokestatic 296, 3) := by decide +kernel
theorem dX11_taken_94 : decode cX11_taken 94 = .ok (.ifCond .eq 7, 3) := by decide +kernel
theorem dX11_taken_97 : decode cX11_taken 97 = .ok (.iload_n 1, 1) := by decide +kernel
theorem dX11_taken_98 : decode cX11_taken 98 = .ok (.goto 5, 3) := by decide +kernel
theorem dX11_taken_101 : decode cX11_taken 101 = .ok (.bipush (-13), 2) := by decide +kernel
theorem dX11_taken_103 : decode cX11_taken 103 = .ok (.ireturn, 1) := by decide +kernel
