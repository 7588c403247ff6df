/-! decode rows of SoundStreamModel, by program -/
theorem d_Mo_init_0 : decode prog_13_method_1_code 0 = .ok (.aload_n 0, 1) := by decide +kernel
theorem d_Mo_init_1 : decode prog_13_method_1_code 1 = .ok (.invokespecial 1, 3) := by decide +kernel
theorem d_Mo_init_4 : decode prog_13_method_1_code 4 = .ok (.aload_n 0, 1) := by decide +kernel
theorem d_Mo_init_5 : decode prog_13_method_1_code 5 = .ok (.bipush 64, 2) := by decide +kernel
theorem d_Mo_init_7 : decode prog_13_method_1_code 7 = .ok (.newarray .long, 2) := by decide +kernel
theorem d_Mo_init_9 : decode prog_13_method_1_code 9 = .ok (.dup, 1) := by decide +kernel
theorem d_Mo_init_10 : decode prog_13_method_1_code 10 = .ok (.iconst 0, 1) := by decide +kernel
theorem d_Mo_init_11 : decode prog_13_method_1_code 11 = .ok (.ldc2_w 7, 3) := by decide +kernel
theorem d_Mo_init_14 : decode prog_13_method_1_code 14 = .ok (.lastore, 1) := by decide +kernel
theorem d_Mo_init_15 : decode prog_13_method_1_code 15 = .ok (.dup, 1) := by decide +kernel
theorem d_Mo_init_16 : decode prog_13_method_1_code 16 = .ok (.iconst 1, 1) := by decide +kernel
theorem d_Mo_init_17 : decode prog_13_method_1_code 17 = .ok (.ldc2_w 9, 3) := by decide +kernel
theorem d_Mo_init_20 : decode prog_13_method_1_code 20 = .ok (.lastore, 1) := by decide +kernel
theorem d_Mo_init_21 : decode prog_13_method_1_code 21 = .ok (.dup, 1) := by decide +kernel
theorem d_Mo_init_22 : decode prog_13_method_1_code 22 = .ok (.iconst 2, 1) := by decide +kernel
theorem d_Mo_init_23 : decode prog_13_method_1_code 23 = .ok (.ldc2_w 11, 3) := by decide +kernel
theorem d_Mo_init_26 : decode prog_13_method_1_code 26 = .ok (.lastore, 1) := by decide +kernel
theorem d_Mo_init_27 : decode prog_13_method_1_code 27 = .ok (.dup, 1) := by decide +kernel
theorem d_Mo_init_28 : decode prog_13_method_1_code 28 = .ok (.iconst 3, 1) := by decide +kernel
theorem d_Mo_init_29 : decode prog_13_method_1_code 29 = .ok (.ldc2_w 13, 3) := by decide +kernel
theorem d_Mo_init_32 : decode prog_13_method_1_code 32 = .ok (.lastore, 1) := by decide +kernel
theorem d_Mo_init_33 : decode prog_13_method_1_code 33 = .ok (.dup, 1) := by decide +kernel
theorem d_Mo_init_34 : decode prog_13_method_1_code 34 = .ok (.iconst 4, 1) := by decide +kernel
theorem d_Mo_init_35 : decode prog_13_method_1_code 35 = .ok (.ldc2_w 15, 3) := by decide +kernel
theorem d_Mo_init_38 : decode prog_13_method_1_code 38 = .ok (.lastore, 1) := by decide +kernel
theorem d_Mo_init_39 : decode prog_13_method_1_code 39 = .ok (.dup, 1) := by decide +kernel
theorem d_Mo_init_40 : decode prog_13_method_1_code 40 = .ok (.iconst 5, 1) := by decide +kernel
theorem d_Mo_init_41 : decode prog_13_method_1_code 41 = .ok (.ldc2_w 17, 3) := by decide +kernel
theorem d_Mo_init_44 : decode prog_13_method_1_code 44 = .ok (.lastore, 1) := by decide +kernel
theorem d_Mo_init_45 : decode prog_13_method_1_code 45 = .ok (.dup, 1) := by decide +kernel
theorem d_Mo_init_46 : decode prog_13_method_1_code 46 = .ok (.bipush 6, 2) := by decide +kernel
theorem d_Mo_init_48 : decode prog_13_method_1_code 48 = .ok (.ldc2_w 19, 3) := by decide +kernel
theorem d_Mo_init_51 : decode prog_13_method_1_code 51 = .ok (.lastore, 1) := by decide +kernel
theorem d_Mo_init_52 : decode prog_13_method_1_code 52 = .ok (.dup, 1) := by decide +kernel
theorem d_Mo_init_53 : decode prog_13_method_1_code 53 = .ok (.bipush 7, 2) := by decide +kernel
theorem d_Mo_init_55 : decode prog_13_method_1_code 55 = .ok (.ldc2_w 21, 3) := by decide +kernel
theorem d_Mo_init_58 : decode prog_13_method_1_code 58 = .ok (.lastore, 1) := by decide +kernel
theorem d_Mo_init_59 : decode prog_13_method_1_code 59 = .ok (.dup, 1) := by decide +kernel
theorem d_Mo_init_60 : decode prog_13_method_1_code 60 = .ok (.bipush 8, 2) := by decide +kernel
theorem d_Mo_init_62 : decode prog_13_method_1_code 62 = .ok (.ldc2_w 23, 3) := by decide +kernel
theorem d_Mo_init_65 : decode prog_13_method_1_code 65 = .ok (.lastore, 1) := by decide +kernel
theorem d_Mo_init_66 : decode prog_13_method_1_code 66 = .ok (.dup, 1) := by decide +kernel
theorem d_Mo_init_67 : decode prog_13_method_1_code 67 = .ok (.bipush 9, 2) := by decide +kernel
theorem d_Mo_init_69 : decode prog_13_method_1_code 69 = .ok (.ldc2_w 25, 3) := by decide +kernel
theorem d_Mo_init_72 : decode prog_13_method_1_code 72 = .ok (.lastore, 1) := by decide +kernel
theorem d_Mo_init_73 : decode prog_13_method_1_code 73 = .ok (.dup, 1) := by decide +kernel
theorem d_Mo_init_74 : decode prog_13_method_1_code 74 = .ok (.bipush 10, 2) := by decide +kernel
theorem d_Mo_init_76 : decode prog_13_method_1_code 76 = .ok (.ldc2_w 27, 3) := by decide +kernel
theorem d_Mo_init_79 : decode prog_13_method_1_code 79 = .ok (.lastore, 1) := by decide +kernel
theorem d_Mo_init_80 : decode prog_13_method_1_code 80 = .ok (.dup, 1) := by decide +kernel
theorem d_Mo_init_81 : decode prog_13_method_1_code 81 = .ok (.bipush 11, 2) := by decide +kernel
theorem d_Mo_init_83 : decode prog_13_method_1_code 83 = .ok (.ldc2_w 29, 3) := by decide +kernel
theorem d_Mo_init_86 : decode prog_13_method_1_code 86 = .ok (.lastore, 1) := by decide +kernel
theorem d_Mo_init_87 : decode prog_13_method_1_code 87 = .ok (.dup, 1) := by decide +kernel
theorem d_Mo_init_88 : decode prog_13_method_1_code 88 = .ok (.bipush 12, 2) := by decide +kernel
theorem d_Mo_init_90 : decode prog_13_method_1_code 90 = .ok (.ldc2_w 31, 3) := by decide +kernel
theorem d_Mo_init_93 : decode prog_13_method_1_code 93 = .ok (.lastore, 1) := by decide +kernel
theorem d_Mo_init_94 : decode prog_13_method_1_code 94 = .ok (.dup, 1) := by decide +kernel
theorem d_Mo_init_95 : decode prog_13_method_1_code 95 = .ok (.bipush 13, 2) := by decide +kernel
theorem d_Mo_init_97 : decode prog_13_method_1_code 97 = .ok (.ldc2_w 33, 3) := by decide +kernel
theorem d_Mo_init_100 : decode prog_13_method_1_code 100 = .ok (.lastore, 1) := by decide +kernel
theorem d_Mo_init_101 : decode prog_13_method_1_code 101 = .ok (.dup, 1) := by decide +kernel
theorem d_Mo_init_102 : decode prog_13_method_1_code 102 = .ok (.bipush 14, 2) := by decide +kernel
theorem d_Mo_init_104 : decode prog_13_method_1_code 104 = .ok (.ldc2_w 35, 3) := by decide +kernel
theorem d_Mo_init_107 : decode prog_13_method_1_code 107 = .ok (.lastore, 1) := by decide +kernel
theorem d_Mo_init_108 : decode prog_13_method_1_code 108 = .ok (.dup, 1) := by decide +kernel
theorem d_Mo_init_109 : decode prog_13_method_1_code 109 = .ok (.bipush 15, 2) := by decide +kernel
theorem d_Mo_init_111 : decode prog_13_method_1_code 111 = .ok (.ldc2_w 37, 3) := by decide +kernel
theorem d_Mo_init_114 : decode prog_13_method_1_code 114 = .ok (.lastore, 1) := by decide +kernel
theorem d_Mo_init_115 : decode prog_13_method_1_code 115 = .ok (.dup, 1) := by decide +kernel
theorem d_Mo_init_116 : decode prog_13_method_1_code 116 = .ok (.bipush 16, 2) := by decide +kernel
theorem d_Mo_init_118 : decode prog_13_method_1_code 118 = .ok (.ldc2_w 39, 3) := by decide +kernel
theorem d_Mo_init_121 : decode prog_13_method_1_code 121 = .ok (.lastore, 1) := by decide +kernel
theorem d_Mo_init_122 : decode prog_13_method_1_code 122 = .ok (.dup, 1) := by decide +kernel
theorem d_Mo_init_123 : decode prog_13_method_1_code 123 = .ok (.bipush 17, 2) := by decide +kernel
theorem d_Mo_init_125 : decode prog_13_method_1_code 125 = .ok (.ldc2_w 41, 3) := by decide +kernel
theorem d_Mo_init_128 : decode prog_13_method_1_code 128 = .ok (.lastore, 1) := by decide +kernel
theorem d_Mo_init_129 : decode prog_13_method_1_code 129 = .ok (.dup, 1) := by decide +kernel
theorem d_Mo_init_130 : decode prog_13_method_1_code 130 = .ok (.bipush 18, 2) := by decide +kernel
theorem d_Mo_init_132 : decode prog_13_method_1_code 132 = .ok (.ldc2_w 43, 3) := by decide +kernel
theorem d_Mo_init_135 : decode prog_13_method_1_code 135 = .ok (.lastore, 1) := by decide +kernel
theorem d_Mo_init_136 : decode prog_13_method_1_code 136 = .ok (.dup, 1) := by decide +kernel
theorem d_Mo_init_137 : decode prog_13_method_1_code 137 = .ok (.bipush 19, 2) := by decide +kernel
theorem d_Mo_init_139 : decode prog_13_method_1_code 139 = .ok (.ldc2_w 45, 3) := by decide +kernel
theorem d_Mo_init_142 : decode prog_13_method_1_code 142 = .ok (.lastore, 1) := by decide +kernel
theorem d_Mo_init_143 : decode prog_13_method_1_code 143 = .ok (.dup, 1) := by decide +kernel
theorem d_Mo_init_144 : decode prog_13_method_1_code 144 = .ok (.bipush 20, 2) := by decide +kernel
theorem d_Mo_init_146 : decode prog_13_method_1_code 146 = .ok (.ldc2_w 47, 3) := by decide +kernel
theorem d_Mo_init_149 : decode prog_13_method_1_code 149 = .ok (.lastore, 1) := by decide +kernel
theorem d_Mo_init_150 : decode prog_13_method_1_code 150 = .ok (.dup, 1) := by decide +kernel
theorem d_Mo_init_151 : decode prog_13_method_1_code 151 = .ok (.bipush 21, 2) := by decide +kernel
theorem d_Mo_init_153 : decode prog_13_method_1_code 153 = .ok (.ldc2_w 49, 3) := by decide +kernel
theorem d_Mo_init_156 : decode prog_13_method_1_code 156 = .ok (.lastore, 1) := by decide +kernel
theorem d_Mo_init_157 : decode prog_13_method_1_code 157 = .ok (.dup, 1) := by decide +kernel
theorem d_Mo_init_158 : decode prog_13_method_1_code 158 = .ok (.bipush 22, 2) := by decide +kernel
theorem d_Mo_init_160 : decode prog_13_method_1_code 160 = .ok (.ldc2_w 51, 3) := by decide +kernel
theorem d_Mo_init_163 : decode prog_13_method_1_code 163 = .ok (.lastore, 1) := by decide +kernel
theorem d_Mo_init_164 : decode prog_13_method_1_code 164 = .ok (.dup, 1) := by decide +kernel
theorem d_Mo_init_165 : decode prog_13_method_1_code 165 = .ok (.bipush 23, 2) := by decide +kernel
theorem d_Mo_init_167 : decode prog_13_method_1_code 167 = .ok (.ldc2_w 53, 3) := by decide +kernel
theorem d_Mo_init_170 : decode prog_13_method_1_code 170 = .ok (.lastore, 1) := by decide +kernel
theorem d_Mo_init_171 : decode prog_13_method_1_code 171 = .ok (.dup, 1) := by decide +kernel
theorem d_Mo_init_172 : decode prog_13_method_1_code 172 = .ok (.bipush 24, 2) := by decide +kernel
theorem d_Mo_init_174 : decode prog_13_method_1_code 174 = .ok (.ldc2_w 55, 3) := by decide +kernel
theorem d_Mo_init_177 : decode prog_13_method_1_code 177 = .ok (.lastore, 1) := by decide +kernel
theorem d_Mo_init_178 : decode prog_13_method_1_code 178 = .ok (.dup, 1) := by decide +kernel
theorem d_Mo_init_179 : decode prog_13_method_1_code 179 = .ok (.bipush 25, 2) := by decide +kernel
theorem d_Mo_init_181 : decode prog_13_method_1_code 181 = .ok (.ldc2_w 57, 3) := by decide +kernel
theorem d_Mo_init_184 : decode prog_13_method_1_code 184 = .ok (.lastore, 1) := by decide +kernel
theorem d_Mo_init_185 : decode prog_13_method_1_code 185 = .ok (.dup, 1) := by decide +kernel
theorem d_Mo_init_186 : decode prog_13_method_1_code 186 = .ok (.bipush 26, 2) := by decide +kernel
theorem d_Mo_init_188 : decode prog_13_method_1_code 188 = .ok (.ldc2_w 59, 3) := by decide +kernel
theorem d_Mo_init_191 : decode prog_13_method_1_code 191 = .ok (.lastore, 1) := by decide +kernel
theorem d_Mo_init_192 : decode prog_13_method_1_code 192 = .ok (.dup, 1) := by decide +kernel
theorem d_Mo_init_193 : decode prog_13_method_1_code 193 = .ok (.bipush 27, 2) := by decide +kernel
theorem d_Mo_init_195 : decode prog_13_method_1_code 195 = .ok (.ldc2_w 61, 3) := by decide +kernel
theorem d_Mo_init_198 : decode prog_13_method_1_code 198 = .ok (.lastore, 1) := by decide +kernel
theorem d_Mo_init_199 : decode prog_13_method_1_code 199 = .ok (.dup, 1) := by decide +kernel
theorem d_Mo_init_200 : decode prog_13_method_1_code 200 = .ok (.bipush 28, 2) := by decide +kernel
theorem d_Mo_init_202 : decode prog_13_method_1_code 202 = .ok (.ldc2_w 63, 3) := by decide +kernel
theorem d_Mo_init_205 : decode prog_13_method_1_code 205 = .ok (.lastore, 1) := by decide +kernel
theorem d_Mo_init_206 : decode prog_13_method_1_code 206 = .ok (.dup, 1) := by decide +kernel
theorem d_Mo_init_207 : decode prog_13_method_1_code 207 = .ok (.bipush 29, 2) := by decide +kernel
theorem d_Mo_init_209 : decode prog_13_method_1_code 209 = .ok (.ldc2_w 65, 3) := by decide +kernel
theorem d_Mo_init_212 : decode prog_13_method_1_code 212 = .ok (.lastore, 1) := by decide +kernel
theorem d_Mo_init_213 : decode prog_13_method_1_code 213 = .ok (.dup, 1) := by decide +kernel
theorem d_Mo_init_214 : decode prog_13_method_1_code 214 = .ok (.bipush 30, 2) := by decide +kernel
theorem d_Mo_init_216 : decode prog_13_method_1_code 216 = .ok (.ldc2_w 67, 3) := by decide +kernel
theorem d_Mo_init_219 : decode prog_13_method_1_code 219 = .ok (.lastore, 1) := by decide +kernel
theorem d_Mo_init_220 : decode prog_13_method_1_code 220 = .ok (.dup, 1) := by decide +kernel
theorem d_Mo_init_221 : decode prog_13_method_1_code 221 = .ok (.bipush 31, 2) := by decide +kernel
theorem d_Mo_init_223 : decode prog_13_method_1_code 223 = .ok (.ldc2_w 69, 3) := by decide +kernel
theorem d_Mo_init_226 : decode prog_13_method_1_code 226 = .ok (.lastore, 1) := by decide +kernel
theorem d_Mo_init_227 : decode prog_13_method_1_code 227 = .ok (.dup, 1) := by decide +kernel
theorem d_Mo_init_228 : decode prog_13_method_1_code 228 = .ok (.bipush 32, 2) := by decide +kernel
theorem d_Mo_init_230 : decode prog_13_method_1_code 230 = .ok (.ldc2_w 71, 3) := by decide +kernel
theorem d_Mo_init_233 : decode prog_13_method_1_code 233 = .ok (.lastore, 1) := by decide +kernel
theorem d_Mo_init_234 : decode prog_13_method_1_code 234 = .ok (.dup, 1) := by decide +kernel
theorem d_Mo_init_235 : decode prog_13_method_1_code 235 = .ok (.bipush 33, 2) := by decide +kernel
theorem d_Mo_init_237 : decode prog_13_method_1_code 237 = .ok (.ldc2_w 73, 3) := by decide +kernel
theorem d_Mo_init_240 : decode prog_13_method_1_code 240 = .ok (.lastore, 1) := by decide +kernel
theorem d_Mo_init_241 : decode prog_13_method_1_code 241 = .ok (.dup, 1) := by decide +kernel
theorem d_Mo_init_242 : decode prog_13_method_1_code 242 = .ok (.bipush 34, 2) := by decide +kernel
theorem d_Mo_init_244 : decode prog_13_method_1_code 244 = .ok (.ldc2_w 75, 3) := by decide +kernel
theorem d_Mo_init_247 : decode prog_13_method_1_code 247 = .ok (.lastore, 1) := by decide +kernel
theorem d_Mo_init_248 : decode prog_13_method_1_code 248 = .ok (.dup, 1) := by decide +kernel
theorem d_Mo_init_249 : decode prog_13_method_1_code 249 = .ok (.bipush 35, 2) := by decide +kernel
theorem d_Mo_init_251 : decode prog_13_method_1_code 251 = .ok (.ldc2_w 77, 3) := by decide +kernel
theorem d_Mo_init_254 : decode prog_13_method_1_code 254 = .ok (.lastore, 1) := by decide +kernel
theorem d_Mo_init_255 : decode prog_13_method_1_code 255 = .ok (.dup, 1) := by decide +kernel
theorem d_Mo_init_256 : decode prog_13_method_1_code 256 = .ok (.bipush 36, 2) := by decide +kernel
theorem d_Mo_init_258 : decode prog_13_method_1_code 258 = .ok (.ldc2_w 79, 3) := by decide +kernel
theorem d_Mo_init_261 : decode prog_13_method_1_code 261 = .ok (.lastore, 1) := by decide +kernel
theorem d_Mo_init_262 : decode prog_13_method_1_code 262 = .ok (.dup, 1) := by decide +kernel
theorem d_Mo_init_263 : decode prog_13_method_1_code 263 = .ok (.bipush 37, 2) := by decide +kernel
theorem d_Mo_init_265 : decode prog_13_method_1_code 265 = .ok (.ldc2_w 81, 3) := by decide +kernel
theorem d_Mo_init_268 : decode prog_13_method_1_code 268 = .ok (.lastore, 1) := by decide +kernel
theorem d_Mo_init_269 : decode prog_13_method_1_code 269 = .ok (.dup, 1) := by decide +kernel
theorem d_Mo_init_270 : decode prog_13_method_1_code 270 = .ok (.bipush 38, 2) := by decide +kernel
theorem d_Mo_init_272 : decode prog_13_method_1_code 272 = .ok (.ldc2_w 83, 3) := by decide +kernel
theorem d_Mo_init_275 : decode prog_13_method_1_code 275 = .ok (.lastore, 1) := by decide +kernel
theorem d_Mo_init_276 : decode prog_13_method_1_code 276 = .ok (.dup, 1) := by decide +kernel
theorem d_Mo_init_277 : decode prog_13_method_1_code 277 = .ok (.bipush 39, 2) := by decide +kernel
theorem d_Mo_init_279 : decode prog_13_method_1_code 279 = .ok (.ldc2_w 85, 3) := by decide +kernel
theorem d_Mo_init_282 : decode prog_13_method_1_code 282 = .ok (.lastore, 1) := by decide +kernel
theorem d_Mo_init_283 : decode prog_13_method_1_code 283 = .ok (.dup, 1) := by decide +kernel
theorem d_Mo_init_284 : decode prog_13_method_1_code 284 = .ok (.bipush 40, 2) := by decide +kernel
theorem d_Mo_init_286 : decode prog_13_method_1_code 286 = .ok (.ldc2_w 87, 3) := by decide +kernel
theorem d_Mo_init_289 : decode prog_13_method_1_code 289 = .ok (.lastore, 1) := by decide +kernel
theorem d_Mo_init_290 : decode prog_13_method_1_code 290 = .ok (.dup, 1) := by decide +kernel
theorem d_Mo_init_291 : decode prog_13_method_1_code 291 = .ok (.bipush 41, 2) := by decide +kernel
theorem d_Mo_init_293 : decode prog_13_method_1_code 293 = .ok (.ldc2_w 89, 3) := by decide +kernel
theorem d_Mo_init_296 : decode prog_13_method_1_code 296 = .ok (.lastore, 1) := by decide +kernel
theorem d_Mo_init_297 : decode prog_13_method_1_code 297 = .ok (.dup, 1) := by decide +kernel
theorem d_Mo_init_298 : decode prog_13_method_1_code 298 = .ok (.bipush 42, 2) := by decide +kernel
theorem d_Mo_init_300 : decode prog_13_method_1_code 300 = .ok (.ldc2_w 91, 3) := by decide +kernel
theorem d_Mo_init_303 : decode prog_13_method_1_code 303 = .ok (.lastore, 1) := by decide +kernel
theorem d_Mo_init_304 : decode prog_13_method_1_code 304 = .ok (.dup, 1) := by decide +kernel
theorem d_Mo_init_305 : decode prog_13_method_1_code 305 = .ok (.bipush 43, 2) := by decide +kernel
theorem d_Mo_init_307 : decode prog_13_method_1_code 307 = .ok (.ldc2_w 93, 3) := by decide +kernel
theorem d_Mo_init_310 : decode prog_13_method_1_code 310 = .ok (.lastore, 1) := by decide +kernel
theorem d_Mo_init_311 : decode prog_13_method_1_code 311 = .ok (.dup, 1) := by decide +kernel
theorem d_Mo_init_312 : decode prog_13_method_1_code 312 = .ok (.bipush 44, 2) := by decide +kernel
theorem d_Mo_init_314 : decode prog_13_method_1_code 314 = .ok (.ldc2_w 95, 3) := by decide +kernel
theorem d_Mo_init_317 : decode prog_13_method_1_code 317 = .ok (.lastore, 1) := by decide +kernel
theorem d_Mo_init_318 : decode prog_13_method_1_code 318 = .ok (.dup, 1) := by decide +kernel
theorem d_Mo_init_319 : decode prog_13_method_1_code 319 = .ok (.bipush 45, 2) := by decide +kernel
theorem d_Mo_init_321 : decode prog_13_method_1_code 321 = .ok (.ldc2_w 97, 3) := by decide +kernel
theorem d_Mo_init_324 : decode prog_13_method_1_code 324 = .ok (.lastore, 1) := by decide +kernel
theorem d_Mo_init_325 : decode prog_13_method_1_code 325 = .ok (.dup, 1) := by decide +kernel
theorem d_Mo_init_326 : decode prog_13_method_1_code 326 = .ok (.bipush 46, 2) := by decide +kernel
theorem d_Mo_init_328 : decode prog_13_method_1_code 328 = .ok (.ldc2_w 99, 3) := by decide +kernel
theorem d_Mo_init_331 : decode prog_13_method_1_code 331 = .ok (.lastore, 1) := by decide +kernel
theorem d_Mo_init_332 : decode prog_13_method_1_code 332 = .ok (.dup, 1) := by decide +kernel
theorem d_Mo_init_333 : decode prog_13_method_1_code 333 = .ok (.bipush 47, 2) := by decide +kernel
theorem d_Mo_init_335 : decode prog_13_method_1_code 335 = .ok (.ldc2_w 101, 3) := by decide +kernel
theorem d_Mo_init_338 : decode prog_13_method_1_code 338 = .ok (.lastore, 1) := by decide +kernel
theorem d_Mo_init_339 : decode prog_13_method_1_code 339 = .ok (.dup, 1) := by decide +kernel
theorem d_Mo_init_340 : decode prog_13_method_1_code 340 = .ok (.bipush 48, 2) := by decide +kernel
theorem d_Mo_init_342 : decode prog_13_method_1_code 342 = .ok (.ldc2_w 103, 3) := by decide +kernel
theorem d_Mo_init_345 : decode prog_13_method_1_code 345 = .ok (.lastore, 1) := by decide +kernel
theorem d_Mo_init_346 : decode prog_13_method_1_code 346 = .ok (.dup, 1) := by decide +kernel
theorem d_Mo_init_347 : decode prog_13_method_1_code 347 = .ok (.bipush 49, 2) := by decide +kernel
theorem d_Mo_init_349 : decode prog_13_method_1_code 349 = .ok (.ldc2_w 105, 3) := by decide +kernel
theorem d_Mo_init_352 : decode prog_13_method_1_code 352 = .ok (.lastore, 1) := by decide +kernel
theorem d_Mo_init_353 : decode prog_13_method_1_code 353 = .ok (.dup, 1) := by decide +kernel
theorem d_Mo_init_354 : decode prog_13_method_1_code 354 = .ok (.bipush 50, 2) := by decide +kernel
theorem d_Mo_init_356 : decode prog_13_method_1_code 356 = .ok (.ldc2_w 107, 3) := by decide +kernel
theorem d_Mo_init_359 : decode prog_13_method_1_code 359 = .ok (.lastore, 1) := by decide +kernel
theorem d_Mo_init_360 : decode prog_13_method_1_code 360 = .ok (.dup, 1) := by decide +kernel
theorem d_Mo_init_361 : decode prog_13_method_1_code 361 = .ok (.bipush 51, 2) := by decide +kernel
theorem d_Mo_init_363 : decode prog_13_method_1_code 363 = .ok (.ldc2_w 109, 3) := by decide +kernel
theorem d_Mo_init_366 : decode prog_13_method_1_code 366 = .ok (.lastore, 1) := by decide +kernel
theorem d_Mo_init_367 : decode prog_13_method_1_code 367 = .ok (.dup, 1) := by decide +kernel
theorem d_Mo_init_368 : decode prog_13_method_1_code 368 = .ok (.bipush 52, 2) := by decide +kernel
theorem d_Mo_init_370 : decode prog_13_method_1_code 370 = .ok (.ldc2_w 111, 3) := by decide +kernel
theorem d_Mo_init_373 : decode prog_13_method_1_code 373 = .ok (.lastore, 1) := by decide +kernel
theorem d_Mo_init_374 : decode prog_13_method_1_code 374 = .ok (.dup, 1) := by decide +kernel
theorem d_Mo_init_375 : decode prog_13_method_1_code 375 = .ok (.bipush 53, 2) := by decide +kernel
theorem d_Mo_init_377 : decode prog_13_method_1_code 377 = .ok (.ldc2_w 113, 3) := by decide +kernel
theorem d_Mo_init_380 : decode prog_13_method_1_code 380 = .ok (.lastore, 1) := by decide +kernel
theorem d_Mo_init_381 : decode prog_13_method_1_code 381 = .ok (.dup, 1) := by decide +kernel
theorem d_Mo_init_382 : decode prog_13_method_1_code 382 = .ok (.bipush 54, 2) := by decide +kernel
theorem d_Mo_init_384 : decode prog_13_method_1_code 384 = .ok (.ldc2_w 115, 3) := by decide +kernel
theorem d_Mo_init_387 : decode prog_13_method_1_code 387 = .ok (.lastore, 1) := by decide +kernel
theorem d_Mo_init_388 : decode prog_13_method_1_code 388 = .ok (.dup, 1) := by decide +kernel
theorem d_Mo_init_389 : decode prog_13_method_1_code 389 = .ok (.bipush 55, 2) := by decide +kernel
theorem d_Mo_init_391 : decode prog_13_method_1_code 391 = .ok (.ldc2_w 117, 3) := by decide +kernel
theorem d_Mo_init_394 : decode prog_13_method_1_code 394 = .ok (.lastore, 1) := by decide +kernel
theorem d_Mo_init_395 : decode prog_13_method_1_code 395 = .ok (.dup, 1) := by decide +kernel
theorem d_Mo_init_396 : decode prog_13_method_1_code 396 = .ok (.bipush 56, 2) := by decide +kernel
theorem d_Mo_init_398 : decode prog_13_method_1_code 398 = .ok (.ldc2_w 119, 3) := by decide +kernel
theorem d_Mo_init_401 : decode prog_13_method_1_code 401 = .ok (.lastore, 1) := by decide +kernel
theorem d_Mo_init_402 : decode prog_13_method_1_code 402 = .ok (.dup, 1) := by decide +kernel
theorem d_Mo_init_403 : decode prog_13_method_1_code 403 = .ok (.bipush 57, 2) := by decide +kernel
theorem d_Mo_init_405 : decode prog_13_method_1_code 405 = .ok (.ldc2_w 121, 3) := by decide +kernel
theorem d_Mo_init_408 : decode prog_13_method_1_code 408 = .ok (.lastore, 1) := by decide +kernel
theorem d_Mo_init_409 : decode prog_13_method_1_code 409 = .ok (.dup, 1) := by decide +kernel
theorem d_Mo_init_410 : decode prog_13_method_1_code 410 = .ok (.bipush 58, 2) := by decide +kernel
theorem d_Mo_init_412 : decode prog_13_method_1_code 412 = .ok (.ldc2_w 123, 3) := by decide +kernel
theorem d_Mo_init_415 : decode prog_13_method_1_code 415 = .ok (.lastore, 1) := by decide +kernel
theorem d_Mo_init_416 : decode prog_13_method_1_code 416 = .ok (.dup, 1) := by decide +kernel
theorem d_Mo_init_417 : decode prog_13_method_1_code 417 = .ok (.bipush 59, 2) := by decide +kernel
theorem d_Mo_init_419 : decode prog_13_method_1_code 419 = .ok (.ldc2_w 125, 3) := by decide +kernel
theorem d_Mo_init_422 : decode prog_13_method_1_code 422 = .ok (.lastore, 1) := by decide +kernel
theorem d_Mo_init_423 : decode prog_13_method_1_code 423 = .ok (.dup, 1) := by decide +kernel
theorem d_Mo_init_424 : decode prog_13_method_1_code 424 = .ok (.bipush 60, 2) := by decide +kernel
theorem d_Mo_init_426 : decode prog_13_method_1_code 426 = .ok (.ldc2_w 127, 3) := by decide +kernel
theorem d_Mo_init_429 : decode prog_13_method_1_code 429 = .ok (.lastore, 1) := by decide +kernel
theorem d_Mo_init_430 : decode prog_13_method_1_code 430 = .ok (.dup, 1) := by decide +kernel
theorem d_Mo_init_431 : decode prog_13_method_1_code 431 = .ok (.bipush 61, 2) := by decide +kernel
theorem d_Mo_init_433 : decode prog_13_method_1_code 433 = .ok (.ldc2_w 129, 3) := by decide +kernel
theorem d_Mo_init_436 : decode prog_13_method_1_code 436 = .ok (.lastore, 1) := by decide +kernel
theorem d_Mo_init_437 : decode prog_13_method_1_code 437 = .ok (.dup, 1) := by decide +kernel
theorem d_Mo_init_438 : decode prog_13_method_1_code 438 = .ok (.bipush 62, 2) := by decide +kernel
theorem d_Mo_init_440 : decode prog_13_method_1_code 440 = .ok (.ldc2_w 131, 3) := by decide +kernel
theorem d_Mo_init_443 : decode prog_13_method_1_code 443 = .ok (.lastore, 1) := by decide +kernel
theorem d_Mo_init_444 : decode prog_13_method_1_code 444 = .ok (.dup, 1) := by decide +kernel
theorem d_Mo_init_445 : decode prog_13_method_1_code 445 = .ok (.bipush 63, 2) := by decide +kernel
theorem d_Mo_init_447 : decode prog_13_method_1_code 447 = .ok (.ldc2_w 133, 3) := by decide +kernel
theorem d_Mo_init_450 : decode prog_13_method_1_code 450 = .ok (.lastore, 1) := by decide +kernel
theorem d_Mo_init_451 : decode prog_13_method_1_code 451 = .ok (.putfield 135, 3) := by decide +kernel
theorem d_Mo_init_454 : decode prog_13_method_1_code 454 = .ok (.aload_n 0, 1) := by decide +kernel
theorem d_Mo_init_455 : decode prog_13_method_1_code 455 = .ok (.bipush 16, 2) := by decide +kernel
theorem d_Mo_init_457 : decode prog_13_method_1_code 457 = .ok (.newarray .int, 2) := by decide +kernel
theorem d_Mo_init_459 : decode prog_13_method_1_code 459 = .ok (.dup, 1) := by decide +kernel
theorem d_Mo_init_460 : decode prog_13_method_1_code 460 = .ok (.iconst 0, 1) := by decide +kernel
theorem d_Mo_init_461 : decode prog_13_method_1_code 461 = .ok (.bipush 7, 2) := by decide +kernel
theorem d_Mo_init_463 : decode prog_13_method_1_code 463 = .ok (.iastore, 1) := by decide +kernel
theorem d_Mo_init_464 : decode prog_13_method_1_code 464 = .ok (.dup, 1) := by decide +kernel
theorem d_Mo_init_465 : decode prog_13_method_1_code 465 = .ok (.iconst 1, 1) := by decide +kernel
theorem d_Mo_init_466 : decode prog_13_method_1_code 466 = .ok (.bipush 12, 2) := by decide +kernel
theorem d_Mo_init_468 : decode prog_13_method_1_code 468 = .ok (.iastore, 1) := by decide +kernel
theorem d_Mo_init_469 : decode prog_13_method_1_code 469 = .ok (.dup, 1) := by decide +kernel
theorem d_Mo_init_470 : decode prog_13_method_1_code 470 = .ok (.iconst 2, 1) := by decide +kernel
theorem d_Mo_init_471 : decode prog_13_method_1_code 471 = .ok (.bipush 17, 2) := by decide +kernel
theorem d_Mo_init_473 : decode prog_13_method_1_code 473 = .ok (.iastore, 1) := by decide +kernel
theorem d_Mo_init_474 : decode prog_13_method_1_code 474 = .ok (.dup, 1) := by decide +kernel
theorem d_Mo_init_475 : decode prog_13_method_1_code 475 = .ok (.iconst 3, 1) := by decide +kernel
theorem d_Mo_init_476 : decode prog_13_method_1_code 476 = .ok (.bipush 22, 2) := by decide +kernel
theorem d_Mo_init_478 : decode prog_13_method_1_code 478 = .ok (.iastore, 1) := by decide +kernel
theorem d_Mo_init_479 : decode prog_13_method_1_code 479 = .ok (.dup, 1) := by decide +kernel
theorem d_Mo_init_480 : decode prog_13_method_1_code 480 = .ok (.iconst 4, 1) := by decide +kernel
theorem d_Mo_init_481 : decode prog_13_method_1_code 481 = .ok (.iconst 5, 1) := by decide +kernel
theorem d_Mo_init_482 : decode prog_13_method_1_code 482 = .ok (.iastore, 1) := by decide +kernel
theorem d_Mo_init_483 : decode prog_13_method_1_code 483 = .ok (.dup, 1) := by decide +kernel
theorem d_Mo_init_484 : decode prog_13_method_1_code 484 = .ok (.iconst 5, 1) := by decide +kernel
theorem d_Mo_init_485 : decode prog_13_method_1_code 485 = .ok (.bipush 9, 2) := by decide +kernel
theorem d_Mo_init_487 : decode prog_13_method_1_code 487 = .ok (.iastore, 1) := by decide +kernel
theorem d_Mo_init_488 : decode prog_13_method_1_code 488 = .ok (.dup, 1) := by decide +kernel
theorem d_Mo_init_489 : decode prog_13_method_1_code 489 = .ok (.bipush 6, 2) := by decide +kernel
theorem d_Mo_init_491 : decode prog_13_method_1_code 491 = .ok (.bipush 14, 2) := by decide +kernel
theorem d_Mo_init_493 : decode prog_13_method_1_code 493 = .ok (.iastore, 1) := by decide +kernel
theorem d_Mo_init_494 : decode prog_13_method_1_code 494 = .ok (.dup, 1) := by decide +kernel
theorem d_Mo_init_495 : decode prog_13_method_1_code 495 = .ok (.bipush 7, 2) := by decide +kernel
theorem d_Mo_init_497 : decode prog_13_method_1_code 497 = .ok (.bipush 20, 2) := by decide +kernel
theorem d_Mo_init_499 : decode prog_13_method_1_code 499 = .ok (.iastore, 1) := by decide +kernel
theorem d_Mo_init_500 : decode prog_13_method_1_code 500 = .ok (.dup, 1) := by decide +kernel
theorem d_Mo_init_501 : decode prog_13_method_1_code 501 = .ok (.bipush 8, 2) := by decide +kernel
theorem d_Mo_init_503 : decode prog_13_method_1_code 503 = .ok (.iconst 4, 1) := by decide +kernel
theorem d_Mo_init_504 : decode prog_13_method_1_code 504 = .ok (.iastore, 1) := by decide +kernel
theorem d_Mo_init_505 : decode prog_13_method_1_code 505 = .ok (.dup, 1) := by decide +kernel
theorem d_Mo_init_506 : decode prog_13_method_1_code 506 = .ok (.bipush 9, 2) := by decide +kernel
theorem d_Mo_init_508 : decode prog_13_method_1_code 508 = .ok (.bipush 11, 2) := by decide +kernel
theorem d_Mo_init_510 : decode prog_13_method_1_code 510 = .ok (.iastore, 1) := by decide +kernel
theorem d_Mo_init_511 : decode prog_13_method_1_code 511 = .ok (.dup, 1) := by decide +kernel
theorem d_Mo_init_512 : decode prog_13_method_1_code 512 = .ok (.bipush 10, 2) := by decide +kernel
theorem d_Mo_init_514 : decode prog_13_method_1_code 514 = .ok (.bipush 16, 2) := by decide +kernel
theorem d_Mo_init_516 : decode prog_13_method_1_code 516 = .ok (.iastore, 1) := by decide +kernel
theorem d_Mo_init_517 : decode prog_13_method_1_code 517 = .ok (.dup, 1) := by decide +kernel
theorem d_Mo_init_518 : decode prog_13_method_1_code 518 = .ok (.bipush 11, 2) := by decide +kernel
theorem d_Mo_init_520 : decode prog_13_method_1_code 520 = .ok (.bipush 23, 2) := by decide +kernel
theorem d_Mo_init_522 : decode prog_13_method_1_code 522 = .ok (.iastore, 1) := by decide +kernel
theorem d_Mo_init_523 : decode prog_13_method_1_code 523 = .ok (.dup, 1) := by decide +kernel
theorem d_Mo_init_524 : decode prog_13_method_1_code 524 = .ok (.bipush 12, 2) := by decide +kernel
theorem d_Mo_init_526 : decode prog_13_method_1_code 526 = .ok (.bipush 6, 2) := by decide +kernel
theorem d_Mo_init_528 : decode prog_13_method_1_code 528 = .ok (.iastore, 1) := by decide +kernel
theorem d_Mo_init_529 : decode prog_13_method_1_code 529 = .ok (.dup, 1) := by decide +kernel
theorem d_Mo_init_530 : decode prog_13_method_1_code 530 = .ok (.bipush 13, 2) := by decide +kernel
theorem d_Mo_init_532 : decode prog_13_method_1_code 532 = .ok (.bipush 10, 2) := by decide +kernel
theorem d_Mo_init_534 : decode prog_13_method_1_code 534 = .ok (.iastore, 1) := by decide +kernel
theorem d_Mo_init_535 : decode prog_13_method_1_code 535 = .ok (.dup, 1) := by decide +kernel
theorem d_Mo_init_536 : decode prog_13_method_1_code 536 = .ok (.bipush 14, 2) := by decide +kernel
theorem d_Mo_init_538 : decode prog_13_method_1_code 538 = .ok (.bipush 15, 2) := by decide +kernel
theorem d_Mo_init_540 : decode prog_13_method_1_code 540 = .ok (.iastore, 1) := by decide +kernel
theorem d_Mo_init_541 : decode prog_13_method_1_code 541 = .ok (.dup, 1) := by decide +kernel
theorem d_Mo_init_542 : decode prog_13_method_1_code 542 = .ok (.bipush 15, 2) := by decide +kernel
theorem d_Mo_init_544 : decode prog_13_method_1_code 544 = .ok (.bipush 21, 2) := by decide +kernel
theorem d_Mo_init_546 : decode prog_13_method_1_code 546 = .ok (.iastore, 1) := by decide +kernel
theorem d_Mo_init_547 : decode prog_13_method_1_code 547 = .ok (.putfield 141, 3) := by decide +kernel
theorem d_Mo_init_550 : decode prog_13_method_1_code 550 = .ok (.aload_n 0, 1) := by decide +kernel
theorem d_Mo_init_551 : decode prog_13_method_1_code 551 = .ok (.iconst 1, 1) := by decide +kernel
theorem d_Mo_init_552 : decode prog_13_method_1_code 552 = .ok (.putfield 145, 3) := by decide +kernel
theorem d_Mo_init_555 : decode prog_13_method_1_code 555 = .ok (.aload_n 0, 1) := by decide +kernel
theorem d_Mo_init_556 : decode prog_13_method_1_code 556 = .ok (.bipush 16, 2) := by decide +kernel
theorem d_Mo_init_558 : decode prog_13_method_1_code 558 = .ok (.putfield 149, 3) := by decide +kernel
theorem d_Mo_init_561 : decode prog_13_method_1_code 561 = .ok (.aload_n 0, 1) := by decide +kernel
theorem d_Mo_init_562 : decode prog_13_method_1_code 562 = .ok (.bipush 64, 2) := by decide +kernel
theorem d_Mo_init_564 : decode prog_13_method_1_code 564 = .ok (.putfield 152, 3) := by decide +kernel
theorem d_Mo_init_567 : decode prog_13_method_1_code 567 = .ok (.aload_n 0, 1) := by decide +kernel
theorem d_Mo_init_568 : decode prog_13_method_1_code 568 = .ok (.sipush 8000, 3) := by decide +kernel
theorem d_Mo_init_571 : decode prog_13_method_1_code 571 = .ok (.putfield 155, 3) := by decide +kernel
theorem d_Mo_init_574 : decode prog_13_method_1_code 574 = .ok (.aload_n 0, 1) := by decide +kernel
theorem d_Mo_init_575 : decode prog_13_method_1_code 575 = .ok (.sipush 2400, 3) := by decide +kernel
theorem d_Mo_init_578 : decode prog_13_method_1_code 578 = .ok (.newarray .int, 2) := by decide +kernel
theorem d_Mo_init_580 : decode prog_13_method_1_code 580 = .ok (.putfield 158, 3) := by decide +kernel
theorem d_Mo_init_583 : decode prog_13_method_1_code 583 = .ok (.aload_n 0, 1) := by decide +kernel
theorem d_Mo_init_584 : decode prog_13_method_1_code 584 = .ok (.iconst 2, 1) := by decide +kernel
theorem d_Mo_init_585 : decode prog_13_method_1_code 585 = .ok (.newarray .int, 2) := by decide +kernel
theorem d_Mo_init_587 : decode prog_13_method_1_code 587 = .ok (.putfield 161, 3) := by decide +kernel
theorem d_Mo_init_590 : decode prog_13_method_1_code 590 = .ok (.aload_n 0, 1) := by decide +kernel
theorem d_Mo_init_591 : decode prog_13_method_1_code 591 = .ok (.sipush 7296, 3) := by decide +kernel
theorem d_Mo_init_594 : decode prog_13_method_1_code 594 = .ok (.newarray .int, 2) := by decide +kernel
theorem d_Mo_init_596 : decode prog_13_method_1_code 596 = .ok (.putfield 164, 3) := by decide +kernel
theorem d_Mo_init_599 : decode prog_13_method_1_code 599 = .ok (.aload_n 0, 1) := by decide +kernel
theorem d_Mo_init_600 : decode prog_13_method_1_code 600 = .ok (.iconst 4, 1) := by decide +kernel
theorem d_Mo_init_601 : decode prog_13_method_1_code 601 = .ok (.newarray .int, 2) := by decide +kernel
theorem d_Mo_init_603 : decode prog_13_method_1_code 603 = .ok (.putfield 167, 3) := by decide +kernel
theorem d_Mo_init_606 : decode prog_13_method_1_code 606 = .ok (.aload_n 0, 1) := by decide +kernel
theorem d_Mo_init_607 : decode prog_13_method_1_code 607 = .ok (.sipush 9400, 3) := by decide +kernel
theorem d_Mo_init_610 : decode prog_13_method_1_code 610 = .ok (.newarray .int, 2) := by decide +kernel
theorem d_Mo_init_612 : decode prog_13_method_1_code 612 = .ok (.putfield 170, 3) := by decide +kernel
theorem d_Mo_init_615 : decode prog_13_method_1_code 615 = .ok (.aload_n 0, 1) := by decide +kernel
theorem d_Mo_init_616 : decode prog_13_method_1_code 616 = .ok (.sipush 720, 3) := by decide +kernel
theorem d_Mo_init_619 : decode prog_13_method_1_code 619 = .ok (.newarray .int, 2) := by decide +kernel
theorem d_Mo_init_621 : decode prog_13_method_1_code 621 = .ok (.putfield 173, 3) := by decide +kernel
theorem d_Mo_init_624 : decode prog_13_method_1_code 624 = .ok (.aload_n 0, 1) := by decide +kernel
theorem d_Mo_init_625 : decode prog_13_method_1_code 625 = .ok (.sipush 1200, 3) := by decide +kernel
theorem d_Mo_init_628 : decode prog_13_method_1_code 628 = .ok (.newarray .int, 2) := by decide +kernel
theorem d_Mo_init_630 : decode prog_13_method_1_code 630 = .ok (.putfield 176, 3) := by decide +kernel
theorem d_Mo_init_633 : decode prog_13_method_1_code 633 = .ok (.aload_n 0, 1) := by decide +kernel
theorem d_Mo_init_634 : decode prog_13_method_1_code 634 = .ok (.sipush 1200, 3) := by decide +kernel
theorem d_Mo_init_637 : decode prog_13_method_1_code 637 = .ok (.newarray .int, 2) := by decide +kernel
theorem d_Mo_init_639 : decode prog_13_method_1_code 639 = .ok (.putfield 179, 3) := by decide +kernel
theorem d_Mo_init_642 : decode prog_13_method_1_code 642 = .ok (.aload_n 0, 1) := by decide +kernel
theorem d_Mo_init_643 : decode prog_13_method_1_code 643 = .ok (.iconst (-1), 1) := by decide +kernel
theorem d_Mo_init_644 : decode prog_13_method_1_code 644 = .ok (.putfield 182, 3) := by decide +kernel
theorem d_Mo_init_647 : decode prog_13_method_1_code 647 = .ok (.aload_n 0, 1) := by decide +kernel
theorem d_Mo_init_648 : decode prog_13_method_1_code 648 = .ok (.bipush 16, 2) := by decide +kernel
theorem d_Mo_init_650 : decode prog_13_method_1_code 650 = .ok (.newarray .int, 2) := by decide +kernel
theorem d_Mo_init_652 : decode prog_13_method_1_code 652 = .ok (.putfield 185, 3) := by decide +kernel
theorem d_Mo_init_655 : decode prog_13_method_1_code 655 = .ok (.aload_n 0, 1) := by decide +kernel
theorem d_Mo_init_656 : decode prog_13_method_1_code 656 = .ok (.sipush 2400, 3) := by decide +kernel
theorem d_Mo_init_659 : decode prog_13_method_1_code 659 = .ok (.newarray .int, 2) := by decide +kernel
theorem d_Mo_init_661 : decode prog_13_method_1_code 661 = .ok (.putfield 188, 3) := by decide +kernel
theorem d_Mo_init_664 : decode prog_13_method_1_code 664 = .ok (.aload_n 0, 1) := by decide +kernel
theorem d_Mo_init_665 : decode prog_13_method_1_code 665 = .ok (.sipush 2400, 3) := by decide +kernel
theorem d_Mo_init_668 : decode prog_13_method_1_code 668 = .ok (.newarray .int, 2) := by decide +kernel
theorem d_Mo_init_670 : decode prog_13_method_1_code 670 = .ok (.putfield 191, 3) := by decide +kernel
theorem d_Mo_init_673 : decode prog_13_method_1_code 673 = .ok (.aload_n 0, 1) := by decide +kernel
theorem d_Mo_init_674 : decode prog_13_method_1_code 674 = .ok (.bipush 32, 2) := by decide +kernel
theorem d_Mo_init_676 : decode prog_13_method_1_code 676 = .ok (.newarray .int, 2) := by decide +kernel
theorem d_Mo_init_678 : decode prog_13_method_1_code 678 = .ok (.putfield 194, 3) := by decide +kernel
theorem d_Mo_init_681 : decode prog_13_method_1_code 681 = .ok (.return_, 1) := by decide +kernel
theorem d_Mo_thrown_0 : decode prog_13_method_2_code 0 = .ok (.aload_n 0, 1) := by decide +kernel
theorem d_Mo_thrown_1 : decode prog_13_method_2_code 1 = .ok (.getfield 197, 3) := by decide +kernel
theorem d_Mo_thrown_4 : decode prog_13_method_2_code 4 = .ok (.ireturn, 1) := by decide +kernel
theorem d_Mo_form_0 : decode prog_13_method_3_code 0 = .ok (.aload_n 0, 1) := by decide +kernel
theorem d_Mo_form_1 : decode prog_13_method_3_code 1 = .ok (.iload_n 1, 1) := by decide +kernel
theorem d_Mo_form_2 : decode prog_13_method_3_code 2 = .ok (.iconst 1, 1) := by decide +kernel
theorem d_Mo_form_3 : decode prog_13_method_3_code 3 = .ok (.if_icmp .lt 45, 3) := by decide +kernel
theorem d_Mo_form_6 : decode prog_13_method_3_code 6 = .ok (.iload_n 1, 1) := by decide +kernel
theorem d_Mo_form_7 : decode prog_13_method_3_code 7 = .ok (.iconst 2, 1) := by decide +kernel
theorem d_Mo_form_8 : decode prog_13_method_3_code 8 = .ok (.if_icmp .gt 40, 3) := by decide +kernel
theorem d_Mo_form_11 : decode prog_13_method_3_code 11 = .ok (.iload_n 2, 1) := by decide +kernel
theorem d_Mo_form_12 : decode prog_13_method_3_code 12 = .ok (.iconst 4, 1) := by decide +kernel
theorem d_Mo_form_13 : decode prog_13_method_3_code 13 = .ok (.if_icmp .lt 35, 3) := by decide +kernel
theorem d_Mo_form_16 : decode prog_13_method_3_code 16 = .ok (.iload_n 2, 1) := by decide +kernel
theorem d_Mo_form_17 : decode prog_13_method_3_code 17 = .ok (.bipush 24, 2) := by decide +kernel
theorem d_Mo_form_19 : decode prog_13_method_3_code 19 = .ok (.if_icmp .gt 29, 3) := by decide +kernel
theorem d_Mo_form_22 : decode prog_13_method_3_code 22 = .ok (.iload_n 3, 1) := by decide +kernel
theorem d_Mo_form_23 : decode prog_13_method_3_code 23 = .ok (.bipush 16, 2) := by decide +kernel
theorem d_Mo_form_25 : decode prog_13_method_3_code 25 = .ok (.if_icmp .lt 23, 3) := by decide +kernel
theorem d_Mo_form_28 : decode prog_13_method_3_code 28 = .ok (.iload_n 3, 1) := by decide +kernel
theorem d_Mo_form_29 : decode prog_13_method_3_code 29 = .ok (.sipush 1024, 3) := by decide +kernel
theorem d_Mo_form_32 : decode prog_13_method_3_code 32 = .ok (.if_icmp .gt 16, 3) := by decide +kernel
theorem d_Mo_form_35 : decode prog_13_method_3_code 35 = .ok (.iload 4, 2) := by decide +kernel
theorem d_Mo_form_37 : decode prog_13_method_3_code 37 = .ok (.iconst 1, 1) := by decide +kernel
theorem d_Mo_form_38 : decode prog_13_method_3_code 38 = .ok (.if_icmp .lt 10, 3) := by decide +kernel
theorem d_Mo_form_41 : decode prog_13_method_3_code 41 = .ok (.iload 4, 2) := by decide +kernel
theorem d_Mo_form_43 : decode prog_13_method_3_code 43 = .ok (.ldc 200, 2) := by decide +kernel
theorem d_Mo_form_45 : decode prog_13_method_3_code 45 = .ok (.if_icmp .le 7, 3) := by decide +kernel
theorem d_Mo_form_48 : decode prog_13_method_3_code 48 = .ok (.iconst 1, 1) := by decide +kernel
theorem d_Mo_form_49 : decode prog_13_method_3_code 49 = .ok (.goto 4, 3) := by decide +kernel
theorem d_Mo_form_52 : decode prog_13_method_3_code 52 = .ok (.iconst 0, 1) := by decide +kernel
theorem d_Mo_form_53 : decode prog_13_method_3_code 53 = .ok (.putfield 197, 3) := by decide +kernel
theorem d_Mo_form_56 : decode prog_13_method_3_code 56 = .ok (.aload_n 0, 1) := by decide +kernel
theorem d_Mo_form_57 : decode prog_13_method_3_code 57 = .ok (.getfield 197, 3) := by decide +kernel
theorem d_Mo_form_60 : decode prog_13_method_3_code 60 = .ok (.ifCond .ne 38, 3) := by decide +kernel
theorem d_Mo_form_63 : decode prog_13_method_3_code 63 = .ok (.aload_n 0, 1) := by decide +kernel
theorem d_Mo_form_64 : decode prog_13_method_3_code 64 = .ok (.iload_n 1, 1) := by decide +kernel
theorem d_Mo_form_65 : decode prog_13_method_3_code 65 = .ok (.putfield 145, 3) := by decide +kernel
theorem d_Mo_form_68 : decode prog_13_method_3_code 68 = .ok (.aload_n 0, 1) := by decide +kernel
theorem d_Mo_form_69 : decode prog_13_method_3_code 69 = .ok (.iload_n 2, 1) := by decide +kernel
theorem d_Mo_form_70 : decode prog_13_method_3_code 70 = .ok (.putfield 149, 3) := by decide +kernel
theorem d_Mo_form_73 : decode prog_13_method_3_code 73 = .ok (.aload_n 0, 1) := by decide +kernel
theorem d_Mo_form_74 : decode prog_13_method_3_code 74 = .ok (.iload_n 3, 1) := by decide +kernel
theorem d_Mo_form_75 : decode prog_13_method_3_code 75 = .ok (.putfield 152, 3) := by decide +kernel
theorem d_Mo_form_78 : decode prog_13_method_3_code 78 = .ok (.aload_n 0, 1) := by decide +kernel
theorem d_Mo_form_79 : decode prog_13_method_3_code 79 = .ok (.iload 4, 2) := by decide +kernel
theorem d_Mo_form_81 : decode prog_13_method_3_code 81 = .ok (.putfield 155, 3) := by decide +kernel
theorem d_Mo_form_84 : decode prog_13_method_3_code 84 = .ok (.aload_n 0, 1) := by decide +kernel
theorem d_Mo_form_85 : decode prog_13_method_3_code 85 = .ok (.getfield 161, 3) := by decide +kernel
theorem d_Mo_form_88 : decode prog_13_method_3_code 88 = .ok (.iconst 0, 1) := by decide +kernel
theorem d_Mo_form_89 : decode prog_13_method_3_code 89 = .ok (.iconst 0, 1) := by decide +kernel
theorem d_Mo_form_90 : decode prog_13_method_3_code 90 = .ok (.iastore, 1) := by decide +kernel
theorem d_Mo_form_91 : decode prog_13_method_3_code 91 = .ok (.aload_n 0, 1) := by decide +kernel
theorem d_Mo_form_92 : decode prog_13_method_3_code 92 = .ok (.getfield 161, 3) := by decide +kernel
theorem d_Mo_form_95 : decode prog_13_method_3_code 95 = .ok (.iconst 1, 1) := by decide +kernel
theorem d_Mo_form_96 : decode prog_13_method_3_code 96 = .ok (.iconst 0, 1) := by decide +kernel
theorem d_Mo_form_97 : decode prog_13_method_3_code 97 = .ok (.iastore, 1) := by decide +kernel
theorem d_Mo_form_98 : decode prog_13_method_3_code 98 = .ok (.return_, 1) := by decide +kernel
theorem d_Mo_noChannel_0 : decode prog_13_method_4_code 0 = .ok (.iload_n 1, 1) := by decide +kernel
theorem d_Mo_noChannel_1 : decode prog_13_method_4_code 1 = .ok (.ifCond .lt 11, 3) := by decide +kernel
theorem d_Mo_noChannel_4 : decode prog_13_method_4_code 4 = .ok (.iload_n 1, 1) := by decide +kernel
theorem d_Mo_noChannel_5 : decode prog_13_method_4_code 5 = .ok (.aload_n 0, 1) := by decide +kernel
theorem d_Mo_noChannel_6 : decode prog_13_method_4_code 6 = .ok (.getfield 145, 3) := by decide +kernel
theorem d_Mo_noChannel_9 : decode prog_13_method_4_code 9 = .ok (.if_icmp .lt 7, 3) := by decide +kernel
theorem d_Mo_noChannel_12 : decode prog_13_method_4_code 12 = .ok (.iconst 1, 1) := by decide +kernel
theorem d_Mo_noChannel_13 : decode prog_13_method_4_code 13 = .ok (.goto 4, 3) := by decide +kernel
theorem d_Mo_noChannel_16 : decode prog_13_method_4_code 16 = .ok (.iconst 0, 1) := by decide +kernel
theorem d_Mo_noChannel_17 : decode prog_13_method_4_code 17 = .ok (.ireturn, 1) := by decide +kernel
theorem d_Mo_add_0 : decode prog_13_method_5_code 0 = .ok (.aload_n 0, 1) := by decide +kernel
theorem d_Mo_add_1 : decode prog_13_method_5_code 1 = .ok (.getfield 158, 3) := by decide +kernel
theorem d_Mo_add_4 : decode prog_13_method_5_code 4 = .ok (.sipush 1200, 3) := by decide +kernel
theorem d_Mo_add_7 : decode prog_13_method_5_code 7 = .ok (.iload_n 1, 1) := by decide +kernel
theorem d_Mo_add_8 : decode prog_13_method_5_code 8 = .ok (.imul, 1) := by decide +kernel
theorem d_Mo_add_9 : decode prog_13_method_5_code 9 = .ok (.aload_n 0, 1) := by decide +kernel
theorem d_Mo_add_10 : decode prog_13_method_5_code 10 = .ok (.getfield 161, 3) := by decide +kernel
theorem d_Mo_add_13 : decode prog_13_method_5_code 13 = .ok (.iload_n 1, 1) := by decide +kernel
theorem d_Mo_add_14 : decode prog_13_method_5_code 14 = .ok (.iaload, 1) := by decide +kernel
theorem d_Mo_add_15 : decode prog_13_method_5_code 15 = .ok (.iadd, 1) := by decide +kernel
theorem d_Mo_add_16 : decode prog_13_method_5_code 16 = .ok (.iload_n 2, 1) := by decide +kernel
theorem d_Mo_add_17 : decode prog_13_method_5_code 17 = .ok (.bipush 32, 2) := by decide +kernel
theorem d_Mo_add_19 : decode prog_13_method_5_code 19 = .ok (.aload_n 0, 1) := by decide +kernel
theorem d_Mo_add_20 : decode prog_13_method_5_code 20 = .ok (.getfield 149, 3) := by decide +kernel
theorem d_Mo_add_23 : decode prog_13_method_5_code 23 = .ok (.isub, 1) := by decide +kernel
theorem d_Mo_add_24 : decode prog_13_method_5_code 24 = .ok (.ishl, 1) := by decide +kernel
theorem d_Mo_add_25 : decode prog_13_method_5_code 25 = .ok (.bipush 32, 2) := by decide +kernel
theorem d_Mo_add_27 : decode prog_13_method_5_code 27 = .ok (.aload_n 0, 1) := by decide +kernel
theorem d_Mo_add_28 : decode prog_13_method_5_code 28 = .ok (.getfield 149, 3) := by decide +kernel
theorem d_Mo_add_31 : decode prog_13_method_5_code 31 = .ok (.isub, 1) := by decide +kernel
theorem d_Mo_add_32 : decode prog_13_method_5_code 32 = .ok (.ishr, 1) := by decide +kernel
theorem d_Mo_add_33 : decode prog_13_method_5_code 33 = .ok (.iastore, 1) := by decide +kernel
theorem d_Mo_add_34 : decode prog_13_method_5_code 34 = .ok (.aload_n 0, 1) := by decide +kernel
theorem d_Mo_add_35 : decode prog_13_method_5_code 35 = .ok (.getfield 161, 3) := by decide +kernel
theorem d_Mo_add_38 : decode prog_13_method_5_code 38 = .ok (.iload_n 1, 1) := by decide +kernel
theorem d_Mo_add_39 : decode prog_13_method_5_code 39 = .ok (.dup2, 1) := by decide +kernel
theorem d_Mo_add_40 : decode prog_13_method_5_code 40 = .ok (.iaload, 1) := by decide +kernel
theorem d_Mo_add_41 : decode prog_13_method_5_code 41 = .ok (.iconst 1, 1) := by decide +kernel
theorem d_Mo_add_42 : decode prog_13_method_5_code 42 = .ok (.iadd, 1) := by decide +kernel
theorem d_Mo_add_43 : decode prog_13_method_5_code 43 = .ok (.iastore, 1) := by decide +kernel
theorem d_Mo_add_44 : decode prog_13_method_5_code 44 = .ok (.return_, 1) := by decide +kernel
theorem d_Mo_sample_0 : decode prog_13_method_6_code 0 = .ok (.aload_n 0, 1) := by decide +kernel
theorem d_Mo_sample_1 : decode prog_13_method_6_code 1 = .ok (.aload_n 0, 1) := by decide +kernel
theorem d_Mo_sample_2 : decode prog_13_method_6_code 2 = .ok (.iload_n 1, 1) := by decide +kernel
theorem d_Mo_sample_3 : decode prog_13_method_6_code 3 = .ok (.invokevirtual 201, 3) := by decide +kernel
theorem d_Mo_sample_6 : decode prog_13_method_6_code 6 = .ok (.ifCond .eq 7, 3) := by decide +kernel
theorem d_Mo_sample_9 : decode prog_13_method_6_code 9 = .ok (.iconst 1, 1) := by decide +kernel
theorem d_Mo_sample_10 : decode prog_13_method_6_code 10 = .ok (.goto 4, 3) := by decide +kernel
theorem d_Mo_sample_13 : decode prog_13_method_6_code 13 = .ok (.iconst 0, 1) := by decide +kernel
theorem d_Mo_sample_14 : decode prog_13_method_6_code 14 = .ok (.putfield 197, 3) := by decide +kernel
theorem d_Mo_sample_17 : decode prog_13_method_6_code 17 = .ok (.aload_n 0, 1) := by decide +kernel
theorem d_Mo_sample_18 : decode prog_13_method_6_code 18 = .ok (.getfield 197, 3) := by decide +kernel
theorem d_Mo_sample_21 : decode prog_13_method_6_code 21 = .ok (.ifCond .le 5, 3) := by decide +kernel
theorem d_Mo_sample_24 : decode prog_13_method_6_code 24 = .ok (.iconst 0, 1) := by decide +kernel
theorem d_Mo_sample_25 : decode prog_13_method_6_code 25 = .ok (.ireturn, 1) := by decide +kernel
theorem d_Mo_sample_26 : decode prog_13_method_6_code 26 = .ok (.aload_n 0, 1) := by decide +kernel
theorem d_Mo_sample_27 : decode prog_13_method_6_code 27 = .ok (.getfield 161, 3) := by decide +kernel
theorem d_Mo_sample_30 : decode prog_13_method_6_code 30 = .ok (.iload_n 1, 1) := by decide +kernel
theorem d_Mo_sample_31 : decode prog_13_method_6_code 31 = .ok (.iaload, 1) := by decide +kernel
theorem d_Mo_sample_32 : decode prog_13_method_6_code 32 = .ok (.sipush 1200, 3) := by decide +kernel
theorem d_Mo_sample_35 : decode prog_13_method_6_code 35 = .ok (.if_icmp .ne 5, 3) := by decide +kernel
theorem d_Mo_sample_38 : decode prog_13_method_6_code 38 = .ok (.iconst (-1), 1) := by decide +kernel
theorem d_Mo_sample_39 : decode prog_13_method_6_code 39 = .ok (.ireturn, 1) := by decide +kernel
theorem d_Mo_sample_40 : decode prog_13_method_6_code 40 = .ok (.aload_n 0, 1) := by decide +kernel
theorem d_Mo_sample_41 : decode prog_13_method_6_code 41 = .ok (.iload_n 1, 1) := by decide +kernel
theorem d_Mo_sample_42 : decode prog_13_method_6_code 42 = .ok (.iload_n 2, 1) := by decide +kernel
theorem d_Mo_sample_43 : decode prog_13_method_6_code 43 = .ok (.invokevirtual 205, 3) := by decide +kernel
theorem d_Mo_sample_46 : decode prog_13_method_6_code 46 = .ok (.aload_n 0, 1) := by decide +kernel
theorem d_Mo_sample_47 : decode prog_13_method_6_code 47 = .ok (.getfield 161, 3) := by decide +kernel
theorem d_Mo_sample_50 : decode prog_13_method_6_code 50 = .ok (.iload_n 1, 1) := by decide +kernel
theorem d_Mo_sample_51 : decode prog_13_method_6_code 51 = .ok (.iaload, 1) := by decide +kernel
theorem d_Mo_sample_52 : decode prog_13_method_6_code 52 = .ok (.ireturn, 1) := by decide +kernel
theorem d_Mo_ramp_0 : decode prog_13_method_7_code 0 = .ok (.aload_n 0, 1) := by decide +kernel
theorem d_Mo_ramp_1 : decode prog_13_method_7_code 1 = .ok (.aload_n 0, 1) := by decide +kernel
theorem d_Mo_ramp_2 : decode prog_13_method_7_code 2 = .ok (.iload_n 1, 1) := by decide +kernel
theorem d_Mo_ramp_3 : decode prog_13_method_7_code 3 = .ok (.invokevirtual 201, 3) := by decide +kernel
theorem d_Mo_ramp_6 : decode prog_13_method_7_code 6 = .ok (.ifCond .ne 7, 3) := by decide +kernel
theorem d_Mo_ramp_9 : decode prog_13_method_7_code 9 = .ok (.iload_n 2, 1) := by decide +kernel
theorem d_Mo_ramp_10 : decode prog_13_method_7_code 10 = .ok (.ifCond .ge 7, 3) := by decide +kernel
theorem d_Mo_ramp_13 : decode prog_13_method_7_code 13 = .ok (.iconst 1, 1) := by decide +kernel
theorem d_Mo_ramp_14 : decode prog_13_method_7_code 14 = .ok (.goto 4, 3) := by decide +kernel
theorem d_Mo_ramp_17 : decode prog_13_method_7_code 17 = .ok (.iconst 0, 1) := by decide +kernel
theorem d_Mo_ramp_18 : decode prog_13_method_7_code 18 = .ok (.putfield 197, 3) := by decide +kernel
theorem d_Mo_ramp_21 : decode prog_13_method_7_code 21 = .ok (.aload_n 0, 1) := by decide +kernel
theorem d_Mo_ramp_22 : decode prog_13_method_7_code 22 = .ok (.getfield 197, 3) := by decide +kernel
theorem d_Mo_ramp_25 : decode prog_13_method_7_code 25 = .ok (.ifCond .le 5, 3) := by decide +kernel
theorem d_Mo_ramp_28 : decode prog_13_method_7_code 28 = .ok (.iconst 0, 1) := by decide +kernel
theorem d_Mo_ramp_29 : decode prog_13_method_7_code 29 = .ok (.ireturn, 1) := by decide +kernel
theorem d_Mo_ramp_30 : decode prog_13_method_7_code 30 = .ok (.iload_n 2, 1) := by decide +kernel
theorem d_Mo_ramp_31 : decode prog_13_method_7_code 31 = .ok (.sipush 1200, 3) := by decide +kernel
theorem d_Mo_ramp_34 : decode prog_13_method_7_code 34 = .ok (.aload_n 0, 1) := by decide +kernel
theorem d_Mo_ramp_35 : decode prog_13_method_7_code 35 = .ok (.getfield 161, 3) := by decide +kernel
theorem d_Mo_ramp_38 : decode prog_13_method_7_code 38 = .ok (.iload_n 1, 1) := by decide +kernel
theorem d_Mo_ramp_39 : decode prog_13_method_7_code 39 = .ok (.iaload, 1) := by decide +kernel
theorem d_Mo_ramp_40 : decode prog_13_method_7_code 40 = .ok (.isub, 1) := by decide +kernel
theorem d_Mo_ramp_41 : decode prog_13_method_7_code 41 = .ok (.if_icmp .le 5, 3) := by decide +kernel
theorem d_Mo_ramp_44 : decode prog_13_method_7_code 44 = .ok (.iconst (-1), 1) := by decide +kernel
theorem d_Mo_ramp_45 : decode prog_13_method_7_code 45 = .ok (.ireturn, 1) := by decide +kernel
theorem d_Mo_ramp_46 : decode prog_13_method_7_code 46 = .ok (.iconst 0, 1) := by decide +kernel
theorem d_Mo_ramp_47 : decode prog_13_method_7_code 47 = .ok (.istore 5, 2) := by decide +kernel
theorem d_Mo_ramp_49 : decode prog_13_method_7_code 49 = .ok (.iload 5, 2) := by decide +kernel
theorem d_Mo_ramp_51 : decode prog_13_method_7_code 51 = .ok (.iload_n 2, 1) := by decide +kernel
theorem d_Mo_ramp_52 : decode prog_13_method_7_code 52 = .ok (.if_icmp .ge 21, 3) := by decide +kernel
theorem d_Mo_ramp_55 : decode prog_13_method_7_code 55 = .ok (.aload_n 0, 1) := by decide +kernel
theorem d_Mo_ramp_56 : decode prog_13_method_7_code 56 = .ok (.iload_n 1, 1) := by decide +kernel
theorem d_Mo_ramp_57 : decode prog_13_method_7_code 57 = .ok (.iload_n 3, 1) := by decide +kernel
theorem d_Mo_ramp_58 : decode prog_13_method_7_code 58 = .ok (.iload 5, 2) := by decide +kernel
theorem d_Mo_ramp_60 : decode prog_13_method_7_code 60 = .ok (.iload 4, 2) := by decide +kernel
theorem d_Mo_ramp_62 : decode prog_13_method_7_code 62 = .ok (.imul, 1) := by decide +kernel
theorem d_Mo_ramp_63 : decode prog_13_method_7_code 63 = .ok (.iadd, 1) := by decide +kernel
theorem d_Mo_ramp_64 : decode prog_13_method_7_code 64 = .ok (.invokevirtual 205, 3) := by decide +kernel
theorem d_Mo_ramp_67 : decode prog_13_method_7_code 67 = .ok (.iinc 5 1, 3) := by decide +kernel
theorem d_Mo_ramp_70 : decode prog_13_method_7_code 70 = .ok (.goto (-21), 3) := by decide +kernel
theorem d_Mo_ramp_73 : decode prog_13_method_7_code 73 = .ok (.aload_n 0, 1) := by decide +kernel
theorem d_Mo_ramp_74 : decode prog_13_method_7_code 74 = .ok (.getfield 161, 3) := by decide +kernel
theorem d_Mo_ramp_77 : decode prog_13_method_7_code 77 = .ok (.iload_n 1, 1) := by decide +kernel
theorem d_Mo_ramp_78 : decode prog_13_method_7_code 78 = .ok (.iaload, 1) := by decide +kernel
theorem d_Mo_ramp_79 : decode prog_13_method_7_code 79 = .ok (.ireturn, 1) := by decide +kernel
theorem d_Mo_noise_0 : decode prog_13_method_8_code 0 = .ok (.aload_n 0, 1) := by decide +kernel
theorem d_Mo_noise_1 : decode prog_13_method_8_code 1 = .ok (.aload_n 0, 1) := by decide +kernel
theorem d_Mo_noise_2 : decode prog_13_method_8_code 2 = .ok (.iload_n 1, 1) := by decide +kernel
theorem d_Mo_noise_3 : decode prog_13_method_8_code 3 = .ok (.invokevirtual 201, 3) := by decide +kernel
theorem d_Mo_noise_6 : decode prog_13_method_8_code 6 = .ok (.ifCond .ne 20, 3) := by decide +kernel
theorem d_Mo_noise_9 : decode prog_13_method_8_code 9 = .ok (.iload_n 2, 1) := by decide +kernel
theorem d_Mo_noise_10 : decode prog_13_method_8_code 10 = .ok (.ifCond .lt 16, 3) := by decide +kernel
theorem d_Mo_noise_13 : decode prog_13_method_8_code 13 = .ok (.iload 4, 2) := by decide +kernel
theorem d_Mo_noise_15 : decode prog_13_method_8_code 15 = .ok (.iconst 1, 1) := by decide +kernel
theorem d_Mo_noise_16 : decode prog_13_method_8_code 16 = .ok (.if_icmp .lt 10, 3) := by decide +kernel
theorem d_Mo_noise_19 : decode prog_13_method_8_code 19 = .ok (.iload 4, 2) := by decide +kernel
theorem d_Mo_noise_21 : decode prog_13_method_8_code 21 = .ok (.bipush 24, 2) := by decide +kernel
theorem d_Mo_noise_23 : decode prog_13_method_8_code 23 = .ok (.if_icmp .le 7, 3) := by decide +kernel
theorem d_Mo_noise_26 : decode prog_13_method_8_code 26 = .ok (.iconst 1, 1) := by decide +kernel
theorem d_Mo_noise_27 : decode prog_13_method_8_code 27 = .ok (.goto 4, 3) := by decide +kernel
theorem d_Mo_noise_30 : decode prog_13_method_8_code 30 = .ok (.iconst 0, 1) := by decide +kernel
theorem d_Mo_noise_31 : decode prog_13_method_8_code 31 = .ok (.putfield 197, 3) := by decide +kernel
theorem d_Mo_noise_34 : decode prog_13_method_8_code 34 = .ok (.aload_n 0, 1) := by decide +kernel
theorem d_Mo_noise_35 : decode prog_13_method_8_code 35 = .ok (.getfield 197, 3) := by decide +kernel
theorem d_Mo_noise_38 : decode prog_13_method_8_code 38 = .ok (.ifCond .le 5, 3) := by decide +kernel
theorem d_Mo_noise_41 : decode prog_13_method_8_code 41 = .ok (.iconst 0, 1) := by decide +kernel
theorem d_Mo_noise_42 : decode prog_13_method_8_code 42 = .ok (.ireturn, 1) := by decide +kernel
theorem d_Mo_noise_43 : decode prog_13_method_8_code 43 = .ok (.iload_n 2, 1) := by decide +kernel
theorem d_Mo_noise_44 : decode prog_13_method_8_code 44 = .ok (.sipush 1200, 3) := by decide +kernel
theorem d_Mo_noise_47 : decode prog_13_method_8_code 47 = .ok (.aload_n 0, 1) := by decide +kernel
theorem d_Mo_noise_48 : decode prog_13_method_8_code 48 = .ok (.getfield 161, 3) := by decide +kernel
theorem d_Mo_noise_51 : decode prog_13_method_8_code 51 = .ok (.iload_n 1, 1) := by decide +kernel
theorem d_Mo_noise_52 : decode prog_13_method_8_code 52 = .ok (.iaload, 1) := by decide +kernel
theorem d_Mo_noise_53 : decode prog_13_method_8_code 53 = .ok (.isub, 1) := by decide +kernel
theorem d_Mo_noise_54 : decode prog_13_method_8_code 54 = .ok (.if_icmp .le 5, 3) := by decide +kernel
theorem d_Mo_noise_57 : decode prog_13_method_8_code 57 = .ok (.iconst (-1), 1) := by decide +kernel
theorem d_Mo_noise_58 : decode prog_13_method_8_code 58 = .ok (.ireturn, 1) := by decide +kernel
theorem d_Mo_noise_59 : decode prog_13_method_8_code 59 = .ok (.iload_n 3, 1) := by decide +kernel
theorem d_Mo_noise_60 : decode prog_13_method_8_code 60 = .ok (.istore 5, 2) := by decide +kernel
theorem d_Mo_noise_62 : decode prog_13_method_8_code 62 = .ok (.iconst 0, 1) := by decide +kernel
theorem d_Mo_noise_63 : decode prog_13_method_8_code 63 = .ok (.istore 6, 2) := by decide +kernel
theorem d_Mo_noise_65 : decode prog_13_method_8_code 65 = .ok (.iload 6, 2) := by decide +kernel
theorem d_Mo_noise_67 : decode prog_13_method_8_code 67 = .ok (.iload_n 2, 1) := by decide +kernel
theorem d_Mo_noise_68 : decode prog_13_method_8_code 68 = .ok (.if_icmp .ge 33, 3) := by decide +kernel
theorem d_Mo_noise_71 : decode prog_13_method_8_code 71 = .ok (.ldc 209, 2) := by decide +kernel
theorem d_Mo_noise_73 : decode prog_13_method_8_code 73 = .ok (.iload 5, 2) := by decide +kernel
theorem d_Mo_noise_75 : decode prog_13_method_8_code 75 = .ok (.imul, 1) := by decide +kernel
theorem d_Mo_noise_76 : decode prog_13_method_8_code 76 = .ok (.sipush 12345, 3) := by decide +kernel
theorem d_Mo_noise_79 : decode prog_13_method_8_code 79 = .ok (.iadd, 1) := by decide +kernel
theorem d_Mo_noise_80 : decode prog_13_method_8_code 80 = .ok (.istore 5, 2) := by decide +kernel
theorem d_Mo_noise_82 : decode prog_13_method_8_code 82 = .ok (.aload_n 0, 1) := by decide +kernel
theorem d_Mo_noise_83 : decode prog_13_method_8_code 83 = .ok (.iload_n 1, 1) := by decide +kernel
theorem d_Mo_noise_84 : decode prog_13_method_8_code 84 = .ok (.iload 5, 2) := by decide +kernel
theorem d_Mo_noise_86 : decode prog_13_method_8_code 86 = .ok (.bipush 32, 2) := by decide +kernel
theorem d_Mo_noise_88 : decode prog_13_method_8_code 88 = .ok (.iload 4, 2) := by decide +kernel
theorem d_Mo_noise_90 : decode prog_13_method_8_code 90 = .ok (.isub, 1) := by decide +kernel
theorem d_Mo_noise_91 : decode prog_13_method_8_code 91 = .ok (.ishr, 1) := by decide +kernel
theorem d_Mo_noise_92 : decode prog_13_method_8_code 92 = .ok (.invokevirtual 205, 3) := by decide +kernel
theorem d_Mo_noise_95 : decode prog_13_method_8_code 95 = .ok (.iinc 6 1, 3) := by decide +kernel
theorem d_Mo_noise_98 : decode prog_13_method_8_code 98 = .ok (.goto (-33), 3) := by decide +kernel
theorem d_Mo_noise_101 : decode prog_13_method_8_code 101 = .ok (.aload_n 0, 1) := by decide +kernel
theorem d_Mo_noise_102 : decode prog_13_method_8_code 102 = .ok (.getfield 161, 3) := by decide +kernel
theorem d_Mo_noise_105 : decode prog_13_method_8_code 105 = .ok (.iload_n 1, 1) := by decide +kernel
theorem d_Mo_noise_106 : decode prog_13_method_8_code 106 = .ok (.iaload, 1) := by decide +kernel
theorem d_Mo_noise_107 : decode prog_13_method_8_code 107 = .ok (.ireturn, 1) := by decide +kernel
theorem d_Mo_clear_0 : decode prog_13_method_9_code 0 = .ok (.aload_n 0, 1) := by decide +kernel
theorem d_Mo_clear_1 : decode prog_13_method_9_code 1 = .ok (.iconst 0, 1) := by decide +kernel
theorem d_Mo_clear_2 : decode prog_13_method_9_code 2 = .ok (.putfield 197, 3) := by decide +kernel
theorem d_Mo_clear_5 : decode prog_13_method_9_code 5 = .ok (.aload_n 0, 1) := by decide +kernel
theorem d_Mo_clear_6 : decode prog_13_method_9_code 6 = .ok (.getfield 161, 3) := by decide +kernel
theorem d_Mo_clear_9 : decode prog_13_method_9_code 9 = .ok (.iconst 0, 1) := by decide +kernel
theorem d_Mo_clear_10 : decode prog_13_method_9_code 10 = .ok (.iconst 0, 1) := by decide +kernel
theorem d_Mo_clear_11 : decode prog_13_method_9_code 11 = .ok (.iastore, 1) := by decide +kernel
theorem d_Mo_clear_12 : decode prog_13_method_9_code 12 = .ok (.aload_n 0, 1) := by decide +kernel
theorem d_Mo_clear_13 : decode prog_13_method_9_code 13 = .ok (.getfield 161, 3) := by decide +kernel
theorem d_Mo_clear_16 : decode prog_13_method_9_code 16 = .ok (.iconst 1, 1) := by decide +kernel
theorem d_Mo_clear_17 : decode prog_13_method_9_code 17 = .ok (.iconst 0, 1) := by decide +kernel
theorem d_Mo_clear_18 : decode prog_13_method_9_code 18 = .ok (.iastore, 1) := by decide +kernel
theorem d_Mo_clear_19 : decode prog_13_method_9_code 19 = .ok (.return_, 1) := by decide +kernel
theorem d_Mo_at_0 : decode prog_13_method_10_code 0 = .ok (.aload_n 0, 1) := by decide +kernel
theorem d_Mo_at_1 : decode prog_13_method_10_code 1 = .ok (.aload_n 0, 1) := by decide +kernel
theorem d_Mo_at_2 : decode prog_13_method_10_code 2 = .ok (.iload_n 1, 1) := by decide +kernel
theorem d_Mo_at_3 : decode prog_13_method_10_code 3 = .ok (.invokevirtual 201, 3) := by decide +kernel
theorem d_Mo_at_6 : decode prog_13_method_10_code 6 = .ok (.ifCond .eq 7, 3) := by decide +kernel
theorem d_Mo_at_9 : decode prog_13_method_10_code 9 = .ok (.iconst 1, 1) := by decide +kernel
theorem d_Mo_at_10 : decode prog_13_method_10_code 10 = .ok (.goto 22, 3) := by decide +kernel
theorem d_Mo_at_13 : decode prog_13_method_10_code 13 = .ok (.iload_n 2, 1) := by decide +kernel
theorem d_Mo_at_14 : decode prog_13_method_10_code 14 = .ok (.ifCond .lt 13, 3) := by decide +kernel
theorem d_Mo_at_17 : decode prog_13_method_10_code 17 = .ok (.iload_n 2, 1) := by decide +kernel
theorem d_Mo_at_18 : decode prog_13_method_10_code 18 = .ok (.aload_n 0, 1) := by decide +kernel
theorem d_Mo_at_19 : decode prog_13_method_10_code 19 = .ok (.getfield 161, 3) := by decide +kernel
theorem d_Mo_at_22 : decode prog_13_method_10_code 22 = .ok (.iload_n 1, 1) := by decide +kernel
theorem d_Mo_at_23 : decode prog_13_method_10_code 23 = .ok (.iaload, 1) := by decide +kernel
theorem d_Mo_at_24 : decode prog_13_method_10_code 24 = .ok (.if_icmp .lt 7, 3) := by decide +kernel
theorem d_Mo_at_27 : decode prog_13_method_10_code 27 = .ok (.iconst 2, 1) := by decide +kernel
theorem d_Mo_at_28 : decode prog_13_method_10_code 28 = .ok (.goto 4, 3) := by decide +kernel
theorem d_Mo_at_31 : decode prog_13_method_10_code 31 = .ok (.iconst 0, 1) := by decide +kernel
theorem d_Mo_at_32 : decode prog_13_method_10_code 32 = .ok (.putfield 197, 3) := by decide +kernel
theorem d_Mo_at_35 : decode prog_13_method_10_code 35 = .ok (.aload_n 0, 1) := by decide +kernel
theorem d_Mo_at_36 : decode prog_13_method_10_code 36 = .ok (.getfield 197, 3) := by decide +kernel
theorem d_Mo_at_39 : decode prog_13_method_10_code 39 = .ok (.ifCond .le 7, 3) := by decide +kernel
theorem d_Mo_at_42 : decode prog_13_method_10_code 42 = .ok (.iconst 0, 1) := by decide +kernel
theorem d_Mo_at_43 : decode prog_13_method_10_code 43 = .ok (.goto 15, 3) := by decide +kernel
theorem d_Mo_at_46 : decode prog_13_method_10_code 46 = .ok (.aload_n 0, 1) := by decide +kernel
theorem d_Mo_at_47 : decode prog_13_method_10_code 47 = .ok (.getfield 158, 3) := by decide +kernel
theorem d_Mo_at_50 : decode prog_13_method_10_code 50 = .ok (.sipush 1200, 3) := by decide +kernel
theorem d_Mo_at_53 : decode prog_13_method_10_code 53 = .ok (.iload_n 1, 1) := by decide +kernel
theorem d_Mo_at_54 : decode prog_13_method_10_code 54 = .ok (.imul, 1) := by decide +kernel
theorem d_Mo_at_55 : decode prog_13_method_10_code 55 = .ok (.iload_n 2, 1) := by decide +kernel
theorem d_Mo_at_56 : decode prog_13_method_10_code 56 = .ok (.iadd, 1) := by decide +kernel
theorem d_Mo_at_57 : decode prog_13_method_10_code 57 = .ok (.iaload, 1) := by decide +kernel
theorem d_Mo_at_58 : decode prog_13_method_10_code 58 = .ok (.ireturn, 1) := by decide +kernel
theorem d_Mo_word_0 : decode prog_13_method_11_code 0 = .ok (.iload_n 1, 1) := by decide +kernel
theorem d_Mo_word_1 : decode prog_13_method_11_code 1 = .ok (.iconst 4, 1) := by decide +kernel
theorem d_Mo_word_2 : decode prog_13_method_11_code 2 = .ok (.iload_n 2, 1) := by decide +kernel
theorem d_Mo_word_3 : decode prog_13_method_11_code 3 = .ok (.imul, 1) := by decide +kernel
theorem d_Mo_word_4 : decode prog_13_method_11_code 4 = .ok (.iadd, 1) := by decide +kernel
theorem d_Mo_word_5 : decode prog_13_method_11_code 5 = .ok (.istore_n 3, 1) := by decide +kernel
theorem d_Mo_word_6 : decode prog_13_method_11_code 6 = .ok (.aload_n 0, 1) := by decide +kernel
theorem d_Mo_word_7 : decode prog_13_method_11_code 7 = .ok (.getfield 164, 3) := by decide +kernel
theorem d_Mo_word_10 : decode prog_13_method_11_code 10 = .ok (.iload_n 3, 1) := by decide +kernel
theorem d_Mo_word_11 : decode prog_13_method_11_code 11 = .ok (.iaload, 1) := by decide +kernel
theorem d_Mo_word_12 : decode prog_13_method_11_code 12 = .ok (.aload_n 0, 1) := by decide +kernel
theorem d_Mo_word_13 : decode prog_13_method_11_code 13 = .ok (.getfield 164, 3) := by decide +kernel
theorem d_Mo_word_16 : decode prog_13_method_11_code 16 = .ok (.iload_n 3, 1) := by decide +kernel
theorem d_Mo_word_17 : decode prog_13_method_11_code 17 = .ok (.iconst 1, 1) := by decide +kernel
theorem d_Mo_word_18 : decode prog_13_method_11_code 18 = .ok (.iadd, 1) := by decide +kernel
theorem d_Mo_word_19 : decode prog_13_method_11_code 19 = .ok (.iaload, 1) := by decide +kernel
theorem d_Mo_word_20 : decode prog_13_method_11_code 20 = .ok (.bipush 8, 2) := by decide +kernel
theorem d_Mo_word_22 : decode prog_13_method_11_code 22 = .ok (.ishl, 1) := by decide +kernel
theorem d_Mo_word_23 : decode prog_13_method_11_code 23 = .ok (.ior, 1) := by decide +kernel
theorem d_Mo_word_24 : decode prog_13_method_11_code 24 = .ok (.aload_n 0, 1) := by decide +kernel
theorem d_Mo_word_25 : decode prog_13_method_11_code 25 = .ok (.getfield 164, 3) := by decide +kernel
theorem d_Mo_word_28 : decode prog_13_method_11_code 28 = .ok (.iload_n 3, 1) := by decide +kernel
theorem d_Mo_word_29 : decode prog_13_method_11_code 29 = .ok (.iconst 2, 1) := by decide +kernel
theorem d_Mo_word_30 : decode prog_13_method_11_code 30 = .ok (.iadd, 1) := by decide +kernel
theorem d_Mo_word_31 : decode prog_13_method_11_code 31 = .ok (.iaload, 1) := by decide +kernel
theorem d_Mo_word_32 : decode prog_13_method_11_code 32 = .ok (.bipush 16, 2) := by decide +kernel
theorem d_Mo_word_34 : decode prog_13_method_11_code 34 = .ok (.ishl, 1) := by decide +kernel
theorem d_Mo_word_35 : decode prog_13_method_11_code 35 = .ok (.ior, 1) := by decide +kernel
theorem d_Mo_word_36 : decode prog_13_method_11_code 36 = .ok (.aload_n 0, 1) := by decide +kernel
theorem d_Mo_word_37 : decode prog_13_method_11_code 37 = .ok (.getfield 164, 3) := by decide +kernel
theorem d_Mo_word_40 : decode prog_13_method_11_code 40 = .ok (.iload_n 3, 1) := by decide +kernel
theorem d_Mo_word_41 : decode prog_13_method_11_code 41 = .ok (.iconst 3, 1) := by decide +kernel
theorem d_Mo_word_42 : decode prog_13_method_11_code 42 = .ok (.iadd, 1) := by decide +kernel
theorem d_Mo_word_43 : decode prog_13_method_11_code 43 = .ok (.iaload, 1) := by decide +kernel
theorem d_Mo_word_44 : decode prog_13_method_11_code 44 = .ok (.bipush 24, 2) := by decide +kernel
theorem d_Mo_word_46 : decode prog_13_method_11_code 46 = .ok (.ishl, 1) := by decide +kernel
theorem d_Mo_word_47 : decode prog_13_method_11_code 47 = .ok (.ior, 1) := by decide +kernel
theorem d_Mo_word_48 : decode prog_13_method_11_code 48 = .ok (.ireturn, 1) := by decide +kernel
theorem d_Mo_mixed_0 : decode prog_13_method_12_code 0 = .ok (.iload_n 0, 1) := by decide +kernel
theorem d_Mo_mixed_1 : decode prog_13_method_12_code 1 = .ok (.bipush 16, 2) := by decide +kernel
theorem d_Mo_mixed_3 : decode prog_13_method_12_code 3 = .ok (.if_icmp .ge 13, 3) := by decide +kernel
theorem d_Mo_mixed_6 : decode prog_13_method_12_code 6 = .ok (.iload_n 1, 1) := by decide +kernel
theorem d_Mo_mixed_7 : decode prog_13_method_12_code 7 = .ok (.iload_n 2, 1) := by decide +kernel
theorem d_Mo_mixed_8 : decode prog_13_method_12_code 8 = .ok (.iand, 1) := by decide +kernel
theorem d_Mo_mixed_9 : decode prog_13_method_12_code 9 = .ok (.iload_n 1, 1) := by decide +kernel
theorem d_Mo_mixed_10 : decode prog_13_method_12_code 10 = .ok (.iconst (-1), 1) := by decide +kernel
theorem d_Mo_mixed_11 : decode prog_13_method_12_code 11 = .ok (.ixor, 1) := by decide +kernel
theorem d_Mo_mixed_12 : decode prog_13_method_12_code 12 = .ok (.iload_n 3, 1) := by decide +kernel
theorem d_Mo_mixed_13 : decode prog_13_method_12_code 13 = .ok (.iand, 1) := by decide +kernel
theorem d_Mo_mixed_14 : decode prog_13_method_12_code 14 = .ok (.ior, 1) := by decide +kernel
theorem d_Mo_mixed_15 : decode prog_13_method_12_code 15 = .ok (.ireturn, 1) := by decide +kernel
theorem d_Mo_mixed_16 : decode prog_13_method_12_code 16 = .ok (.iload_n 0, 1) := by decide +kernel
theorem d_Mo_mixed_17 : decode prog_13_method_12_code 17 = .ok (.bipush 32, 2) := by decide +kernel
theorem d_Mo_mixed_19 : decode prog_13_method_12_code 19 = .ok (.if_icmp .ge 13, 3) := by decide +kernel
theorem d_Mo_mixed_22 : decode prog_13_method_12_code 22 = .ok (.iload_n 3, 1) := by decide +kernel
theorem d_Mo_mixed_23 : decode prog_13_method_12_code 23 = .ok (.iload_n 1, 1) := by decide +kernel
theorem d_Mo_mixed_24 : decode prog_13_method_12_code 24 = .ok (.iand, 1) := by decide +kernel
theorem d_Mo_mixed_25 : decode prog_13_method_12_code 25 = .ok (.iload_n 3, 1) := by decide +kernel
theorem d_Mo_mixed_26 : decode prog_13_method_12_code 26 = .ok (.iconst (-1), 1) := by decide +kernel
theorem d_Mo_mixed_27 : decode prog_13_method_12_code 27 = .ok (.ixor, 1) := by decide +kernel
theorem d_Mo_mixed_28 : decode prog_13_method_12_code 28 = .ok (.iload_n 2, 1) := by decide +kernel
theorem d_Mo_mixed_29 : decode prog_13_method_12_code 29 = .ok (.iand, 1) := by decide +kernel
theorem d_Mo_mixed_30 : decode prog_13_method_12_code 30 = .ok (.ior, 1) := by decide +kernel
theorem d_Mo_mixed_31 : decode prog_13_method_12_code 31 = .ok (.ireturn, 1) := by decide +kernel
theorem d_Mo_mixed_32 : decode prog_13_method_12_code 32 = .ok (.iload_n 0, 1) := by decide +kernel
theorem d_Mo_mixed_33 : decode prog_13_method_12_code 33 = .ok (.bipush 48, 2) := by decide +kernel
theorem d_Mo_mixed_35 : decode prog_13_method_12_code 35 = .ok (.if_icmp .ge 11, 3) := by decide +kernel
theorem d_Mo_mixed_38 : decode prog_13_method_12_code 38 = .ok (.iload_n 1, 1) := by decide +kernel
theorem d_Mo_mixed_39 : decode prog_13_method_12_code 39 = .ok (.iload_n 2, 1) := by decide +kernel
theorem d_Mo_mixed_40 : decode prog_13_method_12_code 40 = .ok (.ixor, 1) := by decide +kernel
theorem d_Mo_mixed_41 : decode prog_13_method_12_code 41 = .ok (.iload_n 3, 1) := by decide +kernel
theorem d_Mo_mixed_42 : decode prog_13_method_12_code 42 = .ok (.ixor, 1) := by decide +kernel
theorem d_Mo_mixed_43 : decode prog_13_method_12_code 43 = .ok (.goto 10, 3) := by decide +kernel
theorem d_Mo_mixed_46 : decode prog_13_method_12_code 46 = .ok (.iload_n 2, 1) := by decide +kernel
theorem d_Mo_mixed_47 : decode prog_13_method_12_code 47 = .ok (.iload_n 1, 1) := by decide +kernel
theorem d_Mo_mixed_48 : decode prog_13_method_12_code 48 = .ok (.iload_n 3, 1) := by decide +kernel
theorem d_Mo_mixed_49 : decode prog_13_method_12_code 49 = .ok (.iconst (-1), 1) := by decide +kernel
theorem d_Mo_mixed_50 : decode prog_13_method_12_code 50 = .ok (.ixor, 1) := by decide +kernel
theorem d_Mo_mixed_51 : decode prog_13_method_12_code 51 = .ok (.ior, 1) := by decide +kernel
theorem d_Mo_mixed_52 : decode prog_13_method_12_code 52 = .ok (.ixor, 1) := by decide +kernel
theorem d_Mo_mixed_53 : decode prog_13_method_12_code 53 = .ok (.ireturn, 1) := by decide +kernel
theorem d_Mo_which_0 : decode prog_13_method_13_code 0 = .ok (.iload_n 0, 1) := by decide +kernel
theorem d_Mo_which_1 : decode prog_13_method_13_code 1 = .ok (.bipush 16, 2) := by decide +kernel
theorem d_Mo_which_3 : decode prog_13_method_13_code 3 = .ok (.if_icmp .ge 7, 3) := by decide +kernel
theorem d_Mo_which_6 : decode prog_13_method_13_code 6 = .ok (.iload_n 0, 1) := by decide +kernel
theorem d_Mo_which_7 : decode prog_13_method_13_code 7 = .ok (.goto 35, 3) := by decide +kernel
theorem d_Mo_which_10 : decode prog_13_method_13_code 10 = .ok (.iload_n 0, 1) := by decide +kernel
theorem d_Mo_which_11 : decode prog_13_method_13_code 11 = .ok (.bipush 32, 2) := by decide +kernel
theorem d_Mo_which_13 : decode prog_13_method_13_code 13 = .ok (.if_icmp .ge 11, 3) := by decide +kernel
theorem d_Mo_which_16 : decode prog_13_method_13_code 16 = .ok (.iconst 5, 1) := by decide +kernel
theorem d_Mo_which_17 : decode prog_13_method_13_code 17 = .ok (.iload_n 0, 1) := by decide +kernel
theorem d_Mo_which_18 : decode prog_13_method_13_code 18 = .ok (.imul, 1) := by decide +kernel
theorem d_Mo_which_19 : decode prog_13_method_13_code 19 = .ok (.iconst 1, 1) := by decide +kernel
theorem d_Mo_which_20 : decode prog_13_method_13_code 20 = .ok (.iadd, 1) := by decide +kernel
theorem d_Mo_which_21 : decode prog_13_method_13_code 21 = .ok (.goto 21, 3) := by decide +kernel
theorem d_Mo_which_24 : decode prog_13_method_13_code 24 = .ok (.iload_n 0, 1) := by decide +kernel
theorem d_Mo_which_25 : decode prog_13_method_13_code 25 = .ok (.bipush 48, 2) := by decide +kernel
theorem d_Mo_which_27 : decode prog_13_method_13_code 27 = .ok (.if_icmp .ge 11, 3) := by decide +kernel
theorem d_Mo_which_30 : decode prog_13_method_13_code 30 = .ok (.iconst 3, 1) := by decide +kernel
theorem d_Mo_which_31 : decode prog_13_method_13_code 31 = .ok (.iload_n 0, 1) := by decide +kernel
theorem d_Mo_which_32 : decode prog_13_method_13_code 32 = .ok (.imul, 1) := by decide +kernel
theorem d_Mo_which_33 : decode prog_13_method_13_code 33 = .ok (.iconst 5, 1) := by decide +kernel
theorem d_Mo_which_34 : decode prog_13_method_13_code 34 = .ok (.iadd, 1) := by decide +kernel
theorem d_Mo_which_35 : decode prog_13_method_13_code 35 = .ok (.goto 7, 3) := by decide +kernel
theorem d_Mo_which_38 : decode prog_13_method_13_code 38 = .ok (.bipush 7, 2) := by decide +kernel
theorem d_Mo_which_40 : decode prog_13_method_13_code 40 = .ok (.iload_n 0, 1) := by decide +kernel
theorem d_Mo_which_41 : decode prog_13_method_13_code 41 = .ok (.imul, 1) := by decide +kernel
theorem d_Mo_which_42 : decode prog_13_method_13_code 42 = .ok (.bipush 16, 2) := by decide +kernel
theorem d_Mo_which_44 : decode prog_13_method_13_code 44 = .ok (.irem, 1) := by decide +kernel
theorem d_Mo_which_45 : decode prog_13_method_13_code 45 = .ok (.ireturn, 1) := by decide +kernel
theorem d_Mo_sixtyFour_0 : decode prog_13_method_14_code 0 = .ok (.aload_n 0, 1) := by decide +kernel
theorem d_Mo_sixtyFour_1 : decode prog_13_method_14_code 1 = .ok (.getfield 167, 3) := by decide +kernel
theorem d_Mo_sixtyFour_4 : decode prog_13_method_14_code 4 = .ok (.iconst 0, 1) := by decide +kernel
theorem d_Mo_sixtyFour_5 : decode prog_13_method_14_code 5 = .ok (.iaload, 1) := by decide +kernel
theorem d_Mo_sixtyFour_6 : decode prog_13_method_14_code 6 = .ok (.istore_n 2, 1) := by decide +kernel
theorem d_Mo_sixtyFour_7 : decode prog_13_method_14_code 7 = .ok (.aload_n 0, 1) := by decide +kernel
theorem d_Mo_sixtyFour_8 : decode prog_13_method_14_code 8 = .ok (.getfield 167, 3) := by decide +kernel
theorem d_Mo_sixtyFour_11 : decode prog_13_method_14_code 11 = .ok (.iconst 1, 1) := by decide +kernel
theorem d_Mo_sixtyFour_12 : decode prog_13_method_14_code 12 = .ok (.iaload, 1) := by decide +kernel
theorem d_Mo_sixtyFour_13 : decode prog_13_method_14_code 13 = .ok (.istore_n 3, 1) := by decide +kernel
theorem d_Mo_sixtyFour_14 : decode prog_13_method_14_code 14 = .ok (.aload_n 0, 1) := by decide +kernel
theorem d_Mo_sixtyFour_15 : decode prog_13_method_14_code 15 = .ok (.getfield 167, 3) := by decide +kernel
theorem d_Mo_sixtyFour_18 : decode prog_13_method_14_code 18 = .ok (.iconst 2, 1) := by decide +kernel
theorem d_Mo_sixtyFour_19 : decode prog_13_method_14_code 19 = .ok (.iaload, 1) := by decide +kernel
theorem d_Mo_sixtyFour_20 : decode prog_13_method_14_code 20 = .ok (.istore 4, 2) := by decide +kernel
theorem d_Mo_sixtyFour_22 : decode prog_13_method_14_code 22 = .ok (.aload_n 0, 1) := by decide +kernel
theorem d_Mo_sixtyFour_23 : decode prog_13_method_14_code 23 = .ok (.getfield 167, 3) := by decide +kernel
theorem d_Mo_sixtyFour_26 : decode prog_13_method_14_code 26 = .ok (.iconst 3, 1) := by decide +kernel
theorem d_Mo_sixtyFour_27 : decode prog_13_method_14_code 27 = .ok (.iaload, 1) := by decide +kernel
theorem d_Mo_sixtyFour_28 : decode prog_13_method_14_code 28 = .ok (.istore 5, 2) := by decide +kernel
theorem d_Mo_sixtyFour_30 : decode prog_13_method_14_code 30 = .ok (.iconst 0, 1) := by decide +kernel
theorem d_Mo_sixtyFour_31 : decode prog_13_method_14_code 31 = .ok (.istore 6, 2) := by decide +kernel
theorem d_Mo_sixtyFour_33 : decode prog_13_method_14_code 33 = .ok (.iload 6, 2) := by decide +kernel
theorem d_Mo_sixtyFour_35 : decode prog_13_method_14_code 35 = .ok (.bipush 64, 2) := by decide +kernel
theorem d_Mo_sixtyFour_37 : decode prog_13_method_14_code 37 = .ok (.if_icmp .ge 93, 3) := by decide +kernel
theorem d_Mo_sixtyFour_40 : decode prog_13_method_14_code 40 = .ok (.iload_n 2, 1) := by decide +kernel
theorem d_Mo_sixtyFour_41 : decode prog_13_method_14_code 41 = .ok (.iload 6, 2) := by decide +kernel
theorem d_Mo_sixtyFour_43 : decode prog_13_method_14_code 43 = .ok (.iload_n 3, 1) := by decide +kernel
theorem d_Mo_sixtyFour_44 : decode prog_13_method_14_code 44 = .ok (.iload 4, 2) := by decide +kernel
theorem d_Mo_sixtyFour_46 : decode prog_13_method_14_code 46 = .ok (.iload 5, 2) := by decide +kernel
theorem d_Mo_sixtyFour_48 : decode prog_13_method_14_code 48 = .ok (.invokestatic 210, 3) := by decide +kernel
theorem d_Mo_sixtyFour_51 : decode prog_13_method_14_code 51 = .ok (.iadd, 1) := by decide +kernel
theorem d_Mo_sixtyFour_52 : decode prog_13_method_14_code 52 = .ok (.aload_n 0, 1) := by decide +kernel
theorem d_Mo_sixtyFour_53 : decode prog_13_method_14_code 53 = .ok (.getfield 135, 3) := by decide +kernel
theorem d_Mo_sixtyFour_56 : decode prog_13_method_14_code 56 = .ok (.iload 6, 2) := by decide +kernel
theorem d_Mo_sixtyFour_58 : decode prog_13_method_14_code 58 = .ok (.laload, 1) := by decide +kernel
theorem d_Mo_sixtyFour_59 : decode prog_13_method_14_code 59 = .ok (.l2i, 1) := by decide +kernel
theorem d_Mo_sixtyFour_60 : decode prog_13_method_14_code 60 = .ok (.iadd, 1) := by decide +kernel
theorem d_Mo_sixtyFour_61 : decode prog_13_method_14_code 61 = .ok (.aload_n 0, 1) := by decide +kernel
theorem d_Mo_sixtyFour_62 : decode prog_13_method_14_code 62 = .ok (.iload_n 1, 1) := by decide +kernel
theorem d_Mo_sixtyFour_63 : decode prog_13_method_14_code 63 = .ok (.iload 6, 2) := by decide +kernel
theorem d_Mo_sixtyFour_65 : decode prog_13_method_14_code 65 = .ok (.invokestatic 214, 3) := by decide +kernel
theorem d_Mo_sixtyFour_68 : decode prog_13_method_14_code 68 = .ok (.invokevirtual 218, 3) := by decide +kernel
theorem d_Mo_sixtyFour_71 : decode prog_13_method_14_code 71 = .ok (.iadd, 1) := by decide +kernel
theorem d_Mo_sixtyFour_72 : decode prog_13_method_14_code 72 = .ok (.istore 7, 2) := by decide +kernel
theorem d_Mo_sixtyFour_74 : decode prog_13_method_14_code 74 = .ok (.aload_n 0, 1) := by decide +kernel
theorem d_Mo_sixtyFour_75 : decode prog_13_method_14_code 75 = .ok (.getfield 141, 3) := by decide +kernel
theorem d_Mo_sixtyFour_78 : decode prog_13_method_14_code 78 = .ok (.iload 6, 2) := by decide +kernel
theorem d_Mo_sixtyFour_80 : decode prog_13_method_14_code 80 = .ok (.bipush 16, 2) := by decide +kernel
theorem d_Mo_sixtyFour_82 : decode prog_13_method_14_code 82 = .ok (.idiv, 1) := by decide +kernel
theorem d_Mo_sixtyFour_83 : decode prog_13_method_14_code 83 = .ok (.iconst 4, 1) := by decide +kernel
theorem d_Mo_sixtyFour_84 : decode prog_13_method_14_code 84 = .ok (.imul, 1) := by decide +kernel
theorem d_Mo_sixtyFour_85 : decode prog_13_method_14_code 85 = .ok (.iload 6, 2) := by decide +kernel
theorem d_Mo_sixtyFour_87 : decode prog_13_method_14_code 87 = .ok (.iconst 4, 1) := by decide +kernel
theorem d_Mo_sixtyFour_88 : decode prog_13_method_14_code 88 = .ok (.irem, 1) := by decide +kernel
theorem d_Mo_sixtyFour_89 : decode prog_13_method_14_code 89 = .ok (.iadd, 1) := by decide +kernel
theorem d_Mo_sixtyFour_90 : decode prog_13_method_14_code 90 = .ok (.iaload, 1) := by decide +kernel
theorem d_Mo_sixtyFour_91 : decode prog_13_method_14_code 91 = .ok (.istore 8, 2) := by decide +kernel
theorem d_Mo_sixtyFour_93 : decode prog_13_method_14_code 93 = .ok (.iload 7, 2) := by decide +kernel
theorem d_Mo_sixtyFour_95 : decode prog_13_method_14_code 95 = .ok (.iload 8, 2) := by decide +kernel
theorem d_Mo_sixtyFour_97 : decode prog_13_method_14_code 97 = .ok (.ishl, 1) := by decide +kernel
theorem d_Mo_sixtyFour_98 : decode prog_13_method_14_code 98 = .ok (.iload 7, 2) := by decide +kernel
theorem d_Mo_sixtyFour_100 : decode prog_13_method_14_code 100 = .ok (.bipush 32, 2) := by decide +kernel
theorem d_Mo_sixtyFour_102 : decode prog_13_method_14_code 102 = .ok (.iload 8, 2) := by decide +kernel
theorem d_Mo_sixtyFour_104 : decode prog_13_method_14_code 104 = .ok (.isub, 1) := by decide +kernel
theorem d_Mo_sixtyFour_105 : decode prog_13_method_14_code 105 = .ok (.iushr, 1) := by decide +kernel
theorem d_Mo_sixtyFour_106 : decode prog_13_method_14_code 106 = .ok (.ior, 1) := by decide +kernel
theorem d_Mo_sixtyFour_107 : decode prog_13_method_14_code 107 = .ok (.istore 7, 2) := by decide +kernel
theorem d_Mo_sixtyFour_109 : decode prog_13_method_14_code 109 = .ok (.iload 5, 2) := by decide +kernel
theorem d_Mo_sixtyFour_111 : decode prog_13_method_14_code 111 = .ok (.istore_n 2, 1) := by decide +kernel
theorem d_Mo_sixtyFour_112 : decode prog_13_method_14_code 112 = .ok (.iload 4, 2) := by decide +kernel
theorem d_Mo_sixtyFour_114 : decode prog_13_method_14_code 114 = .ok (.istore 5, 2) := by decide +kernel
theorem d_Mo_sixtyFour_116 : decode prog_13_method_14_code 116 = .ok (.iload_n 3, 1) := by decide +kernel
theorem d_Mo_sixtyFour_117 : decode prog_13_method_14_code 117 = .ok (.istore 4, 2) := by decide +kernel
theorem d_Mo_sixtyFour_119 : decode prog_13_method_14_code 119 = .ok (.iload_n 3, 1) := by decide +kernel
theorem d_Mo_sixtyFour_120 : decode prog_13_method_14_code 120 = .ok (.iload 7, 2) := by decide +kernel
theorem d_Mo_sixtyFour_122 : decode prog_13_method_14_code 122 = .ok (.iadd, 1) := by decide +kernel
theorem d_Mo_sixtyFour_123 : decode prog_13_method_14_code 123 = .ok (.istore_n 3, 1) := by decide +kernel
theorem d_Mo_sixtyFour_124 : decode prog_13_method_14_code 124 = .ok (.iinc 6 1, 3) := by decide +kernel
theorem d_Mo_sixtyFour_127 : decode prog_13_method_14_code 127 = .ok (.goto (-94), 3) := by decide +kernel
theorem d_Mo_sixtyFour_130 : decode prog_13_method_14_code 130 = .ok (.aload_n 0, 1) := by decide +kernel
theorem d_Mo_sixtyFour_131 : decode prog_13_method_14_code 131 = .ok (.getfield 167, 3) := by decide +kernel
theorem d_Mo_sixtyFour_134 : decode prog_13_method_14_code 134 = .ok (.iconst 0, 1) := by decide +kernel
theorem d_Mo_sixtyFour_135 : decode prog_13_method_14_code 135 = .ok (.aload_n 0, 1) := by decide +kernel
theorem d_Mo_sixtyFour_136 : decode prog_13_method_14_code 136 = .ok (.getfield 167, 3) := by decide +kernel
theorem d_Mo_sixtyFour_139 : decode prog_13_method_14_code 139 = .ok (.iconst 0, 1) := by decide +kernel
theorem d_Mo_sixtyFour_140 : decode prog_13_method_14_code 140 = .ok (.iaload, 1) := by decide +kernel
theorem d_Mo_sixtyFour_141 : decode prog_13_method_14_code 141 = .ok (.iload_n 2, 1) := by decide +kernel
theorem d_Mo_sixtyFour_142 : decode prog_13_method_14_code 142 = .ok (.iadd, 1) := by decide +kernel
theorem d_Mo_sixtyFour_143 : decode prog_13_method_14_code 143 = .ok (.iastore, 1) := by decide +kernel
theorem d_Mo_sixtyFour_144 : decode prog_13_method_14_code 144 = .ok (.aload_n 0, 1) := by decide +kernel
theorem d_Mo_sixtyFour_145 : decode prog_13_method_14_code 145 = .ok (.getfield 167, 3) := by decide +kernel
theorem d_Mo_sixtyFour_148 : decode prog_13_method_14_code 148 = .ok (.iconst 1, 1) := by decide +kernel
theorem d_Mo_sixtyFour_149 : decode prog_13_method_14_code 149 = .ok (.aload_n 0, 1) := by decide +kernel
theorem d_Mo_sixtyFour_150 : decode prog_13_method_14_code 150 = .ok (.getfield 167, 3) := by decide +kernel
theorem d_Mo_sixtyFour_153 : decode prog_13_method_14_code 153 = .ok (.iconst 1, 1) := by decide +kernel
theorem d_Mo_sixtyFour_154 : decode prog_13_method_14_code 154 = .ok (.iaload, 1) := by decide +kernel
theorem d_Mo_sixtyFour_155 : decode prog_13_method_14_code 155 = .ok (.iload_n 3, 1) := by decide +kernel
theorem d_Mo_sixtyFour_156 : decode prog_13_method_14_code 156 = .ok (.iadd, 1) := by decide +kernel
theorem d_Mo_sixtyFour_157 : decode prog_13_method_14_code 157 = .ok (.iastore, 1) := by decide +kernel
theorem d_Mo_sixtyFour_158 : decode prog_13_method_14_code 158 = .ok (.aload_n 0, 1) := by decide +kernel
theorem d_Mo_sixtyFour_159 : decode prog_13_method_14_code 159 = .ok (.getfield 167, 3) := by decide +kernel
theorem d_Mo_sixtyFour_162 : decode prog_13_method_14_code 162 = .ok (.iconst 2, 1) := by decide +kernel
theorem d_Mo_sixtyFour_163 : decode prog_13_method_14_code 163 = .ok (.aload_n 0, 1) := by decide +kernel
theorem d_Mo_sixtyFour_164 : decode prog_13_method_14_code 164 = .ok (.getfield 167, 3) := by decide +kernel
theorem d_Mo_sixtyFour_167 : decode prog_13_method_14_code 167 = .ok (.iconst 2, 1) := by decide +kernel
theorem d_Mo_sixtyFour_168 : decode prog_13_method_14_code 168 = .ok (.iaload, 1) := by decide +kernel
theorem d_Mo_sixtyFour_169 : decode prog_13_method_14_code 169 = .ok (.iload 4, 2) := by decide +kernel
theorem d_Mo_sixtyFour_171 : decode prog_13_method_14_code 171 = .ok (.iadd, 1) := by decide +kernel
theorem d_Mo_sixtyFour_172 : decode prog_13_method_14_code 172 = .ok (.iastore, 1) := by decide +kernel
theorem d_Mo_sixtyFour_173 : decode prog_13_method_14_code 173 = .ok (.aload_n 0, 1) := by decide +kernel
theorem d_Mo_sixtyFour_174 : decode prog_13_method_14_code 174 = .ok (.getfield 167, 3) := by decide +kernel
theorem d_Mo_sixtyFour_177 : decode prog_13_method_14_code 177 = .ok (.iconst 3, 1) := by decide +kernel
theorem d_Mo_sixtyFour_178 : decode prog_13_method_14_code 178 = .ok (.aload_n 0, 1) := by decide +kernel
theorem d_Mo_sixtyFour_179 : decode prog_13_method_14_code 179 = .ok (.getfield 167, 3) := by decide +kernel
theorem d_Mo_sixtyFour_182 : decode prog_13_method_14_code 182 = .ok (.iconst 3, 1) := by decide +kernel
theorem d_Mo_sixtyFour_183 : decode prog_13_method_14_code 183 = .ok (.iaload, 1) := by decide +kernel
theorem d_Mo_sixtyFour_184 : decode prog_13_method_14_code 184 = .ok (.iload 5, 2) := by decide +kernel
theorem d_Mo_sixtyFour_186 : decode prog_13_method_14_code 186 = .ok (.iadd, 1) := by decide +kernel
theorem d_Mo_sixtyFour_187 : decode prog_13_method_14_code 187 = .ok (.iastore, 1) := by decide +kernel
theorem d_Mo_sixtyFour_188 : decode prog_13_method_14_code 188 = .ok (.return_, 1) := by decide +kernel
theorem d_Mo_sumUp_0 : decode prog_13_method_15_code 0 = .ok (.iload_n 3, 1) := by decide +kernel
theorem d_Mo_sumUp_1 : decode prog_13_method_15_code 1 = .ok (.bipush 7, 2) := by decide +kernel
theorem d_Mo_sumUp_3 : decode prog_13_method_15_code 3 = .ok (.iadd, 1) := by decide +kernel
theorem d_Mo_sumUp_4 : decode prog_13_method_15_code 4 = .ok (.bipush 8, 2) := by decide +kernel
theorem d_Mo_sumUp_6 : decode prog_13_method_15_code 6 = .ok (.idiv, 1) := by decide +kernel
theorem d_Mo_sumUp_7 : decode prog_13_method_15_code 7 = .ok (.istore 5, 2) := by decide +kernel
theorem d_Mo_sumUp_9 : decode prog_13_method_15_code 9 = .ok (.iconst 0, 1) := by decide +kernel
theorem d_Mo_sumUp_10 : decode prog_13_method_15_code 10 = .ok (.istore 6, 2) := by decide +kernel
theorem d_Mo_sumUp_12 : decode prog_13_method_15_code 12 = .ok (.iconst 0, 1) := by decide +kernel
theorem d_Mo_sumUp_13 : decode prog_13_method_15_code 13 = .ok (.istore 7, 2) := by decide +kernel
theorem d_Mo_sumUp_15 : decode prog_13_method_15_code 15 = .ok (.iload 7, 2) := by decide +kernel
theorem d_Mo_sumUp_17 : decode prog_13_method_15_code 17 = .ok (.iload 4, 2) := by decide +kernel
theorem d_Mo_sumUp_19 : decode prog_13_method_15_code 19 = .ok (.if_icmp .ge 71, 3) := by decide +kernel
theorem d_Mo_sumUp_22 : decode prog_13_method_15_code 22 = .ok (.iconst 0, 1) := by decide +kernel
theorem d_Mo_sumUp_23 : decode prog_13_method_15_code 23 = .ok (.istore 8, 2) := by decide +kernel
theorem d_Mo_sumUp_25 : decode prog_13_method_15_code 25 = .ok (.iload 8, 2) := by decide +kernel
theorem d_Mo_sumUp_27 : decode prog_13_method_15_code 27 = .ok (.iload_n 2, 1) := by decide +kernel
theorem d_Mo_sumUp_28 : decode prog_13_method_15_code 28 = .ok (.if_icmp .ge 56, 3) := by decide +kernel
theorem d_Mo_sumUp_31 : decode prog_13_method_15_code 31 = .ok (.iconst 0, 1) := by decide +kernel
theorem d_Mo_sumUp_32 : decode prog_13_method_15_code 32 = .ok (.istore 9, 2) := by decide +kernel
theorem d_Mo_sumUp_34 : decode prog_13_method_15_code 34 = .ok (.iload 9, 2) := by decide +kernel
theorem d_Mo_sumUp_36 : decode prog_13_method_15_code 36 = .ok (.iload 5, 2) := by decide +kernel
theorem d_Mo_sumUp_38 : decode prog_13_method_15_code 38 = .ok (.if_icmp .ge 40, 3) := by decide +kernel
theorem d_Mo_sumUp_41 : decode prog_13_method_15_code 41 = .ok (.aload_n 0, 1) := by decide +kernel
theorem d_Mo_sumUp_42 : decode prog_13_method_15_code 42 = .ok (.getfield 164, 3) := by decide +kernel
theorem d_Mo_sumUp_45 : decode prog_13_method_15_code 45 = .ok (.iload 6, 2) := by decide +kernel
theorem d_Mo_sumUp_47 : decode prog_13_method_15_code 47 = .ok (.aload_n 1, 1) := by decide +kernel
theorem d_Mo_sumUp_48 : decode prog_13_method_15_code 48 = .ok (.sipush 1200, 3) := by decide +kernel
theorem d_Mo_sumUp_51 : decode prog_13_method_15_code 51 = .ok (.iload 8, 2) := by decide +kernel
theorem d_Mo_sumUp_53 : decode prog_13_method_15_code 53 = .ok (.imul, 1) := by decide +kernel
theorem d_Mo_sumUp_54 : decode prog_13_method_15_code 54 = .ok (.iload 7, 2) := by decide +kernel
theorem d_Mo_sumUp_56 : decode prog_13_method_15_code 56 = .ok (.iadd, 1) := by decide +kernel
theorem d_Mo_sumUp_57 : decode prog_13_method_15_code 57 = .ok (.iaload, 1) := by decide +kernel
theorem d_Mo_sumUp_58 : decode prog_13_method_15_code 58 = .ok (.bipush 8, 2) := by decide +kernel
theorem d_Mo_sumUp_60 : decode prog_13_method_15_code 60 = .ok (.iload 9, 2) := by decide +kernel
theorem d_Mo_sumUp_62 : decode prog_13_method_15_code 62 = .ok (.imul, 1) := by decide +kernel
theorem d_Mo_sumUp_63 : decode prog_13_method_15_code 63 = .ok (.ishr, 1) := by decide +kernel
theorem d_Mo_sumUp_64 : decode prog_13_method_15_code 64 = .ok (.sipush 255, 3) := by decide +kernel
theorem d_Mo_sumUp_67 : decode prog_13_method_15_code 67 = .ok (.iand, 1) := by decide +kernel
theorem d_Mo_sumUp_68 : decode prog_13_method_15_code 68 = .ok (.iastore, 1) := by decide +kernel
theorem d_Mo_sumUp_69 : decode prog_13_method_15_code 69 = .ok (.iinc 6 1, 3) := by decide +kernel
theorem d_Mo_sumUp_72 : decode prog_13_method_15_code 72 = .ok (.iinc 9 1, 3) := by decide +kernel
theorem d_Mo_sumUp_75 : decode prog_13_method_15_code 75 = .ok (.goto (-41), 3) := by decide +kernel
theorem d_Mo_sumUp_78 : decode prog_13_method_15_code 78 = .ok (.iinc 8 1, 3) := by decide +kernel
theorem d_Mo_sumUp_81 : decode prog_13_method_15_code 81 = .ok (.goto (-56), 3) := by decide +kernel
theorem d_Mo_sumUp_84 : decode prog_13_method_15_code 84 = .ok (.iinc 7 1, 3) := by decide +kernel
theorem d_Mo_sumUp_87 : decode prog_13_method_15_code 87 = .ok (.goto (-72), 3) := by decide +kernel
theorem d_Mo_sumUp_90 : decode prog_13_method_15_code 90 = .ok (.ldc2_w 222, 3) := by decide +kernel
theorem d_Mo_sumUp_93 : decode prog_13_method_15_code 93 = .ok (.iload 6, 2) := by decide +kernel
theorem d_Mo_sumUp_95 : decode prog_13_method_15_code 95 = .ok (.i2l, 1) := by decide +kernel
theorem d_Mo_sumUp_96 : decode prog_13_method_15_code 96 = .ok (.lmul, 1) := by decide +kernel
theorem d_Mo_sumUp_97 : decode prog_13_method_15_code 97 = .ok (.lstore 7, 2) := by decide +kernel
theorem d_Mo_sumUp_99 : decode prog_13_method_15_code 99 = .ok (.aload_n 0, 1) := by decide +kernel
theorem d_Mo_sumUp_100 : decode prog_13_method_15_code 100 = .ok (.getfield 164, 3) := by decide +kernel
theorem d_Mo_sumUp_103 : decode prog_13_method_15_code 103 = .ok (.iload 6, 2) := by decide +kernel
theorem d_Mo_sumUp_105 : decode prog_13_method_15_code 105 = .ok (.sipush 128, 3) := by decide +kernel
theorem d_Mo_sumUp_108 : decode prog_13_method_15_code 108 = .ok (.iastore, 1) := by decide +kernel
theorem d_Mo_sumUp_109 : decode prog_13_method_15_code 109 = .ok (.iinc 6 1, 3) := by decide +kernel
theorem d_Mo_sumUp_112 : decode prog_13_method_15_code 112 = .ok (.iload 6, 2) := by decide +kernel
theorem d_Mo_sumUp_114 : decode prog_13_method_15_code 114 = .ok (.bipush 64, 2) := by decide +kernel
theorem d_Mo_sumUp_116 : decode prog_13_method_15_code 116 = .ok (.irem, 1) := by decide +kernel
theorem d_Mo_sumUp_117 : decode prog_13_method_15_code 117 = .ok (.bipush 56, 2) := by decide +kernel
theorem d_Mo_sumUp_119 : decode prog_13_method_15_code 119 = .ok (.if_icmp .eq 17, 3) := by decide +kernel
theorem d_Mo_sumUp_122 : decode prog_13_method_15_code 122 = .ok (.aload_n 0, 1) := by decide +kernel
theorem d_Mo_sumUp_123 : decode prog_13_method_15_code 123 = .ok (.getfield 164, 3) := by decide +kernel
theorem d_Mo_sumUp_126 : decode prog_13_method_15_code 126 = .ok (.iload 6, 2) := by decide +kernel
theorem d_Mo_sumUp_128 : decode prog_13_method_15_code 128 = .ok (.iconst 0, 1) := by decide +kernel
theorem d_Mo_sumUp_129 : decode prog_13_method_15_code 129 = .ok (.iastore, 1) := by decide +kernel
theorem d_Mo_sumUp_130 : decode prog_13_method_15_code 130 = .ok (.iinc 6 1, 3) := by decide +kernel
theorem d_Mo_sumUp_133 : decode prog_13_method_15_code 133 = .ok (.goto (-21), 3) := by decide +kernel
theorem d_Mo_sumUp_136 : decode prog_13_method_15_code 136 = .ok (.iconst 0, 1) := by decide +kernel
theorem d_Mo_sumUp_137 : decode prog_13_method_15_code 137 = .ok (.istore 9, 2) := by decide +kernel
theorem d_Mo_sumUp_139 : decode prog_13_method_15_code 139 = .ok (.iload 9, 2) := by decide +kernel
theorem d_Mo_sumUp_141 : decode prog_13_method_15_code 141 = .ok (.bipush 8, 2) := by decide +kernel
theorem d_Mo_sumUp_143 : decode prog_13_method_15_code 143 = .ok (.if_icmp .ge 32, 3) := by decide +kernel
theorem d_Mo_sumUp_146 : decode prog_13_method_15_code 146 = .ok (.aload_n 0, 1) := by decide +kernel
theorem d_Mo_sumUp_147 : decode prog_13_method_15_code 147 = .ok (.getfield 164, 3) := by decide +kernel
theorem d_Mo_sumUp_150 : decode prog_13_method_15_code 150 = .ok (.iload 6, 2) := by decide +kernel
theorem d_Mo_sumUp_152 : decode prog_13_method_15_code 152 = .ok (.lload 7, 2) := by decide +kernel
theorem d_Mo_sumUp_154 : decode prog_13_method_15_code 154 = .ok (.bipush 8, 2) := by decide +kernel
theorem d_Mo_sumUp_156 : decode prog_13_method_15_code 156 = .ok (.iload 9, 2) := by decide +kernel
theorem d_Mo_sumUp_158 : decode prog_13_method_15_code 158 = .ok (.imul, 1) := by decide +kernel
theorem d_Mo_sumUp_159 : decode prog_13_method_15_code 159 = .ok (.lshr, 1) := by decide +kernel
theorem d_Mo_sumUp_160 : decode prog_13_method_15_code 160 = .ok (.ldc2_w 224, 3) := by decide +kernel
theorem d_Mo_sumUp_163 : decode prog_13_method_15_code 163 = .ok (.land, 1) := by decide +kernel
theorem d_Mo_sumUp_164 : decode prog_13_method_15_code 164 = .ok (.l2i, 1) := by decide +kernel
theorem d_Mo_sumUp_165 : decode prog_13_method_15_code 165 = .ok (.iastore, 1) := by decide +kernel
theorem d_Mo_sumUp_166 : decode prog_13_method_15_code 166 = .ok (.iinc 6 1, 3) := by decide +kernel
theorem d_Mo_sumUp_169 : decode prog_13_method_15_code 169 = .ok (.iinc 9 1, 3) := by decide +kernel
theorem d_Mo_sumUp_172 : decode prog_13_method_15_code 172 = .ok (.goto (-33), 3) := by decide +kernel
theorem d_Mo_sumUp_175 : decode prog_13_method_15_code 175 = .ok (.aload_n 0, 1) := by decide +kernel
theorem d_Mo_sumUp_176 : decode prog_13_method_15_code 176 = .ok (.getfield 167, 3) := by decide +kernel
theorem d_Mo_sumUp_179 : decode prog_13_method_15_code 179 = .ok (.iconst 0, 1) := by decide +kernel
theorem d_Mo_sumUp_180 : decode prog_13_method_15_code 180 = .ok (.ldc 226, 2) := by decide +kernel
theorem d_Mo_sumUp_182 : decode prog_13_method_15_code 182 = .ok (.iastore, 1) := by decide +kernel
theorem d_Mo_sumUp_183 : decode prog_13_method_15_code 183 = .ok (.aload_n 0, 1) := by decide +kernel
theorem d_Mo_sumUp_184 : decode prog_13_method_15_code 184 = .ok (.getfield 167, 3) := by decide +kernel
theorem d_Mo_sumUp_187 : decode prog_13_method_15_code 187 = .ok (.iconst 1, 1) := by decide +kernel
theorem d_Mo_sumUp_188 : decode prog_13_method_15_code 188 = .ok (.ldc 227, 2) := by decide +kernel
theorem d_Mo_sumUp_190 : decode prog_13_method_15_code 190 = .ok (.iastore, 1) := by decide +kernel
theorem d_Mo_sumUp_191 : decode prog_13_method_15_code 191 = .ok (.aload_n 0, 1) := by decide +kernel
theorem d_Mo_sumUp_192 : decode prog_13_method_15_code 192 = .ok (.getfield 167, 3) := by decide +kernel
theorem d_Mo_sumUp_195 : decode prog_13_method_15_code 195 = .ok (.iconst 2, 1) := by decide +kernel
theorem d_Mo_sumUp_196 : decode prog_13_method_15_code 196 = .ok (.ldc 228, 2) := by decide +kernel
theorem d_Mo_sumUp_198 : decode prog_13_method_15_code 198 = .ok (.iastore, 1) := by decide +kernel
theorem d_Mo_sumUp_199 : decode prog_13_method_15_code 199 = .ok (.aload_n 0, 1) := by decide +kernel
theorem d_Mo_sumUp_200 : decode prog_13_method_15_code 200 = .ok (.getfield 167, 3) := by decide +kernel
theorem d_Mo_sumUp_203 : decode prog_13_method_15_code 203 = .ok (.iconst 3, 1) := by decide +kernel
theorem d_Mo_sumUp_204 : decode prog_13_method_15_code 204 = .ok (.ldc 229, 2) := by decide +kernel
theorem d_Mo_sumUp_206 : decode prog_13_method_15_code 206 = .ok (.iastore, 1) := by decide +kernel
theorem d_Mo_sumUp_207 : decode prog_13_method_15_code 207 = .ok (.iconst 0, 1) := by decide +kernel
theorem d_Mo_sumUp_208 : decode prog_13_method_15_code 208 = .ok (.istore 9, 2) := by decide +kernel
theorem d_Mo_sumUp_210 : decode prog_13_method_15_code 210 = .ok (.iload 9, 2) := by decide +kernel
theorem d_Mo_sumUp_212 : decode prog_13_method_15_code 212 = .ok (.iload 6, 2) := by decide +kernel
theorem d_Mo_sumUp_214 : decode prog_13_method_15_code 214 = .ok (.if_icmp .ge 15, 3) := by decide +kernel
theorem d_Mo_sumUp_217 : decode prog_13_method_15_code 217 = .ok (.aload_n 0, 1) := by decide +kernel
theorem d_Mo_sumUp_218 : decode prog_13_method_15_code 218 = .ok (.iload 9, 2) := by decide +kernel
theorem d_Mo_sumUp_220 : decode prog_13_method_15_code 220 = .ok (.invokevirtual 230, 3) := by decide +kernel
theorem d_Mo_sumUp_223 : decode prog_13_method_15_code 223 = .ok (.iinc 9 64, 3) := by decide +kernel
theorem d_Mo_sumUp_226 : decode prog_13_method_15_code 226 = .ok (.goto (-16), 3) := by decide +kernel
theorem d_Mo_sumUp_229 : decode prog_13_method_15_code 229 = .ok (.return_, 1) := by decide +kernel
theorem d_Mo_isUneven_0 : decode prog_13_method_16_code 0 = .ok (.aload_n 0, 1) := by decide +kernel
theorem d_Mo_isUneven_1 : decode prog_13_method_16_code 1 = .ok (.getfield 145, 3) := by decide +kernel
theorem d_Mo_isUneven_4 : decode prog_13_method_16_code 4 = .ok (.iconst 2, 1) := by decide +kernel
theorem d_Mo_isUneven_5 : decode prog_13_method_16_code 5 = .ok (.if_icmp .ne 22, 3) := by decide +kernel
theorem d_Mo_isUneven_8 : decode prog_13_method_16_code 8 = .ok (.aload_n 0, 1) := by decide +kernel
theorem d_Mo_isUneven_9 : decode prog_13_method_16_code 9 = .ok (.getfield 161, 3) := by decide +kernel
theorem d_Mo_isUneven_12 : decode prog_13_method_16_code 12 = .ok (.iconst 0, 1) := by decide +kernel
theorem d_Mo_isUneven_13 : decode prog_13_method_16_code 13 = .ok (.iaload, 1) := by decide +kernel
theorem d_Mo_isUneven_14 : decode prog_13_method_16_code 14 = .ok (.aload_n 0, 1) := by decide +kernel
theorem d_Mo_isUneven_15 : decode prog_13_method_16_code 15 = .ok (.getfield 161, 3) := by decide +kernel
theorem d_Mo_isUneven_18 : decode prog_13_method_16_code 18 = .ok (.iconst 1, 1) := by decide +kernel
theorem d_Mo_isUneven_19 : decode prog_13_method_16_code 19 = .ok (.iaload, 1) := by decide +kernel
theorem d_Mo_isUneven_20 : decode prog_13_method_16_code 20 = .ok (.if_icmp .eq 7, 3) := by decide +kernel
theorem d_Mo_isUneven_23 : decode prog_13_method_16_code 23 = .ok (.iconst 1, 1) := by decide +kernel
theorem d_Mo_isUneven_24 : decode prog_13_method_16_code 24 = .ok (.goto 4, 3) := by decide +kernel
theorem d_Mo_isUneven_27 : decode prog_13_method_16_code 27 = .ok (.iconst 0, 1) := by decide +kernel
theorem d_Mo_isUneven_28 : decode prog_13_method_16_code 28 = .ok (.ireturn, 1) := by decide +kernel
theorem d_Mo_sum_0 : decode prog_13_method_17_code 0 = .ok (.aload_n 0, 1) := by decide +kernel
theorem d_Mo_sum_1 : decode prog_13_method_17_code 1 = .ok (.iload_n 1, 1) := by decide +kernel
theorem d_Mo_sum_2 : decode prog_13_method_17_code 2 = .ok (.ifCond .lt 8, 3) := by decide +kernel
theorem d_Mo_sum_5 : decode prog_13_method_17_code 5 = .ok (.iload_n 1, 1) := by decide +kernel
theorem d_Mo_sum_6 : decode prog_13_method_17_code 6 = .ok (.iconst 1, 1) := by decide +kernel
theorem d_Mo_sum_7 : decode prog_13_method_17_code 7 = .ok (.if_icmp .le 7, 3) := by decide +kernel
theorem d_Mo_sum_10 : decode prog_13_method_17_code 10 = .ok (.iconst 1, 1) := by decide +kernel
theorem d_Mo_sum_11 : decode prog_13_method_17_code 11 = .ok (.goto 15, 3) := by decide +kernel
theorem d_Mo_sum_14 : decode prog_13_method_17_code 14 = .ok (.aload_n 0, 1) := by decide +kernel
theorem d_Mo_sum_15 : decode prog_13_method_17_code 15 = .ok (.invokevirtual 234, 3) := by decide +kernel
theorem d_Mo_sum_18 : decode prog_13_method_17_code 18 = .ok (.ifCond .eq 7, 3) := by decide +kernel
theorem d_Mo_sum_21 : decode prog_13_method_17_code 21 = .ok (.iconst 2, 1) := by decide +kernel
theorem d_Mo_sum_22 : decode prog_13_method_17_code 22 = .ok (.goto 4, 3) := by decide +kernel
theorem d_Mo_sum_25 : decode prog_13_method_17_code 25 = .ok (.iconst 0, 1) := by decide +kernel
theorem d_Mo_sum_26 : decode prog_13_method_17_code 26 = .ok (.putfield 197, 3) := by decide +kernel
theorem d_Mo_sum_29 : decode prog_13_method_17_code 29 = .ok (.aload_n 0, 1) := by decide +kernel
theorem d_Mo_sum_30 : decode prog_13_method_17_code 30 = .ok (.getfield 197, 3) := by decide +kernel
theorem d_Mo_sum_33 : decode prog_13_method_17_code 33 = .ok (.ifCond .le 5, 3) := by decide +kernel
theorem d_Mo_sum_36 : decode prog_13_method_17_code 36 = .ok (.lconst 0, 1) := by decide +kernel
theorem d_Mo_sum_37 : decode prog_13_method_17_code 37 = .ok (.lreturn, 1) := by decide +kernel
theorem d_Mo_sum_38 : decode prog_13_method_17_code 38 = .ok (.aload_n 0, 1) := by decide +kernel
theorem d_Mo_sum_39 : decode prog_13_method_17_code 39 = .ok (.aload_n 0, 1) := by decide +kernel
theorem d_Mo_sum_40 : decode prog_13_method_17_code 40 = .ok (.getfield 158, 3) := by decide +kernel
theorem d_Mo_sum_43 : decode prog_13_method_17_code 43 = .ok (.aload_n 0, 1) := by decide +kernel
theorem d_Mo_sum_44 : decode prog_13_method_17_code 44 = .ok (.getfield 145, 3) := by decide +kernel
theorem d_Mo_sum_47 : decode prog_13_method_17_code 47 = .ok (.aload_n 0, 1) := by decide +kernel
theorem d_Mo_sum_48 : decode prog_13_method_17_code 48 = .ok (.getfield 149, 3) := by decide +kernel
theorem d_Mo_sum_51 : decode prog_13_method_17_code 51 = .ok (.aload_n 0, 1) := by decide +kernel
theorem d_Mo_sum_52 : decode prog_13_method_17_code 52 = .ok (.getfield 161, 3) := by decide +kernel
theorem d_Mo_sum_55 : decode prog_13_method_17_code 55 = .ok (.iconst 0, 1) := by decide +kernel
theorem d_Mo_sum_56 : decode prog_13_method_17_code 56 = .ok (.iaload, 1) := by decide +kernel
theorem d_Mo_sum_57 : decode prog_13_method_17_code 57 = .ok (.invokevirtual 238, 3) := by decide +kernel
theorem d_Mo_sum_60 : decode prog_13_method_17_code 60 = .ok (.aload_n 0, 1) := by decide +kernel
theorem d_Mo_sum_61 : decode prog_13_method_17_code 61 = .ok (.getfield 167, 3) := by decide +kernel
theorem d_Mo_sum_64 : decode prog_13_method_17_code 64 = .ok (.iconst 2, 1) := by decide +kernel
theorem d_Mo_sum_65 : decode prog_13_method_17_code 65 = .ok (.iload_n 1, 1) := by decide +kernel
theorem d_Mo_sum_66 : decode prog_13_method_17_code 66 = .ok (.imul, 1) := by decide +kernel
theorem d_Mo_sum_67 : decode prog_13_method_17_code 67 = .ok (.iaload, 1) := by decide +kernel
theorem d_Mo_sum_68 : decode prog_13_method_17_code 68 = .ok (.i2l, 1) := by decide +kernel
theorem d_Mo_sum_69 : decode prog_13_method_17_code 69 = .ok (.ldc2_w 242, 3) := by decide +kernel
theorem d_Mo_sum_72 : decode prog_13_method_17_code 72 = .ok (.land, 1) := by decide +kernel
theorem d_Mo_sum_73 : decode prog_13_method_17_code 73 = .ok (.aload_n 0, 1) := by decide +kernel
theorem d_Mo_sum_74 : decode prog_13_method_17_code 74 = .ok (.getfield 167, 3) := by decide +kernel
theorem d_Mo_sum_77 : decode prog_13_method_17_code 77 = .ok (.iconst 2, 1) := by decide +kernel
theorem d_Mo_sum_78 : decode prog_13_method_17_code 78 = .ok (.iload_n 1, 1) := by decide +kernel
theorem d_Mo_sum_79 : decode prog_13_method_17_code 79 = .ok (.imul, 1) := by decide +kernel
theorem d_Mo_sum_80 : decode prog_13_method_17_code 80 = .ok (.iconst 1, 1) := by decide +kernel
theorem d_Mo_sum_81 : decode prog_13_method_17_code 81 = .ok (.iadd, 1) := by decide +kernel
theorem d_Mo_sum_82 : decode prog_13_method_17_code 82 = .ok (.iaload, 1) := by decide +kernel
theorem d_Mo_sum_83 : decode prog_13_method_17_code 83 = .ok (.i2l, 1) := by decide +kernel
theorem d_Mo_sum_84 : decode prog_13_method_17_code 84 = .ok (.bipush 32, 2) := by decide +kernel
theorem d_Mo_sum_86 : decode prog_13_method_17_code 86 = .ok (.lshl, 1) := by decide +kernel
theorem d_Mo_sum_87 : decode prog_13_method_17_code 87 = .ok (.lor, 1) := by decide +kernel
theorem d_Mo_sum_88 : decode prog_13_method_17_code 88 = .ok (.lreturn, 1) := by decide +kernel
theorem d_Mo_put_0 : decode prog_13_method_18_code 0 = .ok (.iload_n 3, 1) := by decide +kernel
theorem d_Mo_put_1 : decode prog_13_method_18_code 1 = .ok (.iconst 1, 1) := by decide +kernel
theorem d_Mo_put_2 : decode prog_13_method_18_code 2 = .ok (.isub, 1) := by decide +kernel
theorem d_Mo_put_3 : decode prog_13_method_18_code 3 = .ok (.istore 4, 2) := by decide +kernel
theorem d_Mo_put_5 : decode prog_13_method_18_code 5 = .ok (.iload 4, 2) := by decide +kernel
theorem d_Mo_put_7 : decode prog_13_method_18_code 7 = .ok (.ifCond .lt 76, 3) := by decide +kernel
theorem d_Mo_put_10 : decode prog_13_method_18_code 10 = .ok (.aload_n 0, 1) := by decide +kernel
theorem d_Mo_put_11 : decode prog_13_method_18_code 11 = .ok (.getfield 244, 3) := by decide +kernel
theorem d_Mo_put_14 : decode prog_13_method_18_code 14 = .ok (.ldc2_w 222, 3) := by decide +kernel
theorem d_Mo_put_17 : decode prog_13_method_18_code 17 = .ok (.ldiv, 1) := by decide +kernel
theorem d_Mo_put_18 : decode prog_13_method_18_code 18 = .ok (.l2i, 1) := by decide +kernel
theorem d_Mo_put_19 : decode prog_13_method_18_code 19 = .ok (.istore 5, 2) := by decide +kernel
theorem d_Mo_put_21 : decode prog_13_method_18_code 21 = .ok (.bipush 7, 2) := by decide +kernel
theorem d_Mo_put_23 : decode prog_13_method_18_code 23 = .ok (.aload_n 0, 1) := by decide +kernel
theorem d_Mo_put_24 : decode prog_13_method_18_code 24 = .ok (.getfield 244, 3) := by decide +kernel
theorem d_Mo_put_27 : decode prog_13_method_18_code 27 = .ok (.ldc2_w 222, 3) := by decide +kernel
theorem d_Mo_put_30 : decode prog_13_method_18_code 30 = .ok (.lrem, 1) := by decide +kernel
theorem d_Mo_put_31 : decode prog_13_method_18_code 31 = .ok (.l2i, 1) := by decide +kernel
theorem d_Mo_put_32 : decode prog_13_method_18_code 32 = .ok (.isub, 1) := by decide +kernel
theorem d_Mo_put_33 : decode prog_13_method_18_code 33 = .ok (.istore 6, 2) := by decide +kernel
theorem d_Mo_put_35 : decode prog_13_method_18_code 35 = .ok (.aload_n 0, 1) := by decide +kernel
theorem d_Mo_put_36 : decode prog_13_method_18_code 36 = .ok (.getfield 170, 3) := by decide +kernel
theorem d_Mo_put_39 : decode prog_13_method_18_code 39 = .ok (.iload 5, 2) := by decide +kernel
theorem d_Mo_put_41 : decode prog_13_method_18_code 41 = .ok (.aload_n 0, 1) := by decide +kernel
theorem d_Mo_put_42 : decode prog_13_method_18_code 42 = .ok (.getfield 170, 3) := by decide +kernel
theorem d_Mo_put_45 : decode prog_13_method_18_code 45 = .ok (.iload 5, 2) := by decide +kernel
theorem d_Mo_put_47 : decode prog_13_method_18_code 47 = .ok (.iaload, 1) := by decide +kernel
theorem d_Mo_put_48 : decode prog_13_method_18_code 48 = .ok (.iconst 1, 1) := by decide +kernel
theorem d_Mo_put_49 : decode prog_13_method_18_code 49 = .ok (.iload 6, 2) := by decide +kernel
theorem d_Mo_put_51 : decode prog_13_method_18_code 51 = .ok (.ishl, 1) := by decide +kernel
theorem d_Mo_put_52 : decode prog_13_method_18_code 52 = .ok (.iconst (-1), 1) := by decide +kernel
theorem d_Mo_put_53 : decode prog_13_method_18_code 53 = .ok (.ixor, 1) := by decide +kernel
theorem d_Mo_put_54 : decode prog_13_method_18_code 54 = .ok (.iand, 1) := by decide +kernel
theorem d_Mo_put_55 : decode prog_13_method_18_code 55 = .ok (.lload_n 1, 1) := by decide +kernel
theorem d_Mo_put_56 : decode prog_13_method_18_code 56 = .ok (.iload 4, 2) := by decide +kernel
theorem d_Mo_put_58 : decode prog_13_method_18_code 58 = .ok (.lshr, 1) := by decide +kernel
theorem d_Mo_put_59 : decode prog_13_method_18_code 59 = .ok (.lconst 1, 1) := by decide +kernel
theorem d_Mo_put_60 : decode prog_13_method_18_code 60 = .ok (.land, 1) := by decide +kernel
theorem d_Mo_put_61 : decode prog_13_method_18_code 61 = .ok (.l2i, 1) := by decide +kernel
theorem d_Mo_put_62 : decode prog_13_method_18_code 62 = .ok (.iload 6, 2) := by decide +kernel
theorem d_Mo_put_64 : decode prog_13_method_18_code 64 = .ok (.ishl, 1) := by decide +kernel
theorem d_Mo_put_65 : decode prog_13_method_18_code 65 = .ok (.ior, 1) := by decide +kernel
theorem d_Mo_put_66 : decode prog_13_method_18_code 66 = .ok (.iastore, 1) := by decide +kernel
theorem d_Mo_put_67 : decode prog_13_method_18_code 67 = .ok (.aload_n 0, 1) := by decide +kernel
theorem d_Mo_put_68 : decode prog_13_method_18_code 68 = .ok (.dup, 1) := by decide +kernel
theorem d_Mo_put_69 : decode prog_13_method_18_code 69 = .ok (.getfield 244, 3) := by decide +kernel
theorem d_Mo_put_72 : decode prog_13_method_18_code 72 = .ok (.lconst 1, 1) := by decide +kernel
theorem d_Mo_put_73 : decode prog_13_method_18_code 73 = .ok (.ladd, 1) := by decide +kernel
theorem d_Mo_put_74 : decode prog_13_method_18_code 74 = .ok (.putfield 244, 3) := by decide +kernel
theorem d_Mo_put_77 : decode prog_13_method_18_code 77 = .ok (.iinc 4 (-1), 3) := by decide +kernel
theorem d_Mo_put_80 : decode prog_13_method_18_code 80 = .ok (.goto (-75), 3) := by decide +kernel
theorem d_Mo_put_83 : decode prog_13_method_18_code 83 = .ok (.return_, 1) := by decide +kernel
theorem d_Mo_check_0 : decode prog_13_method_19_code 0 = .ok (.iconst 0, 1) := by decide +kernel
theorem d_Mo_check_1 : decode prog_13_method_19_code 1 = .ok (.istore 4, 2) := by decide +kernel
theorem d_Mo_check_3 : decode prog_13_method_19_code 3 = .ok (.iload_n 1, 1) := by decide +kernel
theorem d_Mo_check_4 : decode prog_13_method_19_code 4 = .ok (.bipush 8, 2) := by decide +kernel
theorem d_Mo_check_6 : decode prog_13_method_19_code 6 = .ok (.if_icmp .ne 8, 3) := by decide +kernel
theorem d_Mo_check_9 : decode prog_13_method_19_code 9 = .ok (.bipush 7, 2) := by decide +kernel
theorem d_Mo_check_11 : decode prog_13_method_19_code 11 = .ok (.goto 5, 3) := by decide +kernel
theorem d_Mo_check_14 : decode prog_13_method_19_code 14 = .ok (.ldc 248, 2) := by decide +kernel
theorem d_Mo_check_16 : decode prog_13_method_19_code 16 = .ok (.istore 5, 2) := by decide +kernel
theorem d_Mo_check_18 : decode prog_13_method_19_code 18 = .ok (.iload_n 1, 1) := by decide +kernel
theorem d_Mo_check_19 : decode prog_13_method_19_code 19 = .ok (.bipush 8, 2) := by decide +kernel
theorem d_Mo_check_21 : decode prog_13_method_19_code 21 = .ok (.if_icmp .ne 9, 3) := by decide +kernel
theorem d_Mo_check_24 : decode prog_13_method_19_code 24 = .ok (.sipush 255, 3) := by decide +kernel
theorem d_Mo_check_27 : decode prog_13_method_19_code 27 = .ok (.goto 5, 3) := by decide +kernel
theorem d_Mo_check_30 : decode prog_13_method_19_code 30 = .ok (.ldc 249, 2) := by decide +kernel
theorem d_Mo_check_32 : decode prog_13_method_19_code 32 = .ok (.istore 6, 2) := by decide +kernel
theorem d_Mo_check_34 : decode prog_13_method_19_code 34 = .ok (.iload_n 2, 1) := by decide +kernel
theorem d_Mo_check_35 : decode prog_13_method_19_code 35 = .ok (.istore 7, 2) := by decide +kernel
theorem d_Mo_check_37 : decode prog_13_method_19_code 37 = .ok (.iload 7, 2) := by decide +kernel
theorem d_Mo_check_39 : decode prog_13_method_19_code 39 = .ok (.iload_n 3, 1) := by decide +kernel
theorem d_Mo_check_40 : decode prog_13_method_19_code 40 = .ok (.if_icmp .ge 72, 3) := by decide +kernel
theorem d_Mo_check_43 : decode prog_13_method_19_code 43 = .ok (.bipush 7, 2) := by decide +kernel
theorem d_Mo_check_45 : decode prog_13_method_19_code 45 = .ok (.istore 8, 2) := by decide +kernel
theorem d_Mo_check_47 : decode prog_13_method_19_code 47 = .ok (.iload 8, 2) := by decide +kernel
theorem d_Mo_check_49 : decode prog_13_method_19_code 49 = .ok (.ifCond .lt 57, 3) := by decide +kernel
theorem d_Mo_check_52 : decode prog_13_method_19_code 52 = .ok (.iload 4, 2) := by decide +kernel
theorem d_Mo_check_54 : decode prog_13_method_19_code 54 = .ok (.iload_n 1, 1) := by decide +kernel
theorem d_Mo_check_55 : decode prog_13_method_19_code 55 = .ok (.iconst 1, 1) := by decide +kernel
theorem d_Mo_check_56 : decode prog_13_method_19_code 56 = .ok (.isub, 1) := by decide +kernel
theorem d_Mo_check_57 : decode prog_13_method_19_code 57 = .ok (.ishr, 1) := by decide +kernel
theorem d_Mo_check_58 : decode prog_13_method_19_code 58 = .ok (.aload_n 0, 1) := by decide +kernel
theorem d_Mo_check_59 : decode prog_13_method_19_code 59 = .ok (.getfield 170, 3) := by decide +kernel
theorem d_Mo_check_62 : decode prog_13_method_19_code 62 = .ok (.iload 7, 2) := by decide +kernel
theorem d_Mo_check_64 : decode prog_13_method_19_code 64 = .ok (.iaload, 1) := by decide +kernel
theorem d_Mo_check_65 : decode prog_13_method_19_code 65 = .ok (.iload 8, 2) := by decide +kernel
theorem d_Mo_check_67 : decode prog_13_method_19_code 67 = .ok (.ishr, 1) := by decide +kernel
theorem d_Mo_check_68 : decode prog_13_method_19_code 68 = .ok (.iconst 1, 1) := by decide +kernel
theorem d_Mo_check_69 : decode prog_13_method_19_code 69 = .ok (.iand, 1) := by decide +kernel
theorem d_Mo_check_70 : decode prog_13_method_19_code 70 = .ok (.ixor, 1) := by decide +kernel
theorem d_Mo_check_71 : decode prog_13_method_19_code 71 = .ok (.istore 9, 2) := by decide +kernel
theorem d_Mo_check_73 : decode prog_13_method_19_code 73 = .ok (.iload 4, 2) := by decide +kernel
theorem d_Mo_check_75 : decode prog_13_method_19_code 75 = .ok (.iconst 1, 1) := by decide +kernel
theorem d_Mo_check_76 : decode prog_13_method_19_code 76 = .ok (.ishl, 1) := by decide +kernel
theorem d_Mo_check_77 : decode prog_13_method_19_code 77 = .ok (.iload 6, 2) := by decide +kernel
theorem d_Mo_check_79 : decode prog_13_method_19_code 79 = .ok (.iand, 1) := by decide +kernel
theorem d_Mo_check_80 : decode prog_13_method_19_code 80 = .ok (.istore 4, 2) := by decide +kernel
theorem d_Mo_check_82 : decode prog_13_method_19_code 82 = .ok (.iload 9, 2) := by decide +kernel
theorem d_Mo_check_84 : decode prog_13_method_19_code 84 = .ok (.iconst 1, 1) := by decide +kernel
theorem d_Mo_check_85 : decode prog_13_method_19_code 85 = .ok (.if_icmp .ne 11, 3) := by decide +kernel
theorem d_Mo_check_88 : decode prog_13_method_19_code 88 = .ok (.iload 4, 2) := by decide +kernel
theorem d_Mo_check_90 : decode prog_13_method_19_code 90 = .ok (.iload 5, 2) := by decide +kernel
theorem d_Mo_check_92 : decode prog_13_method_19_code 92 = .ok (.ixor, 1) := by decide +kernel
theorem d_Mo_check_93 : decode prog_13_method_19_code 93 = .ok (.goto 5, 3) := by decide +kernel
theorem d_Mo_check_96 : decode prog_13_method_19_code 96 = .ok (.iload 4, 2) := by decide +kernel
theorem d_Mo_check_98 : decode prog_13_method_19_code 98 = .ok (.istore 4, 2) := by decide +kernel
theorem d_Mo_check_100 : decode prog_13_method_19_code 100 = .ok (.iinc 8 (-1), 3) := by decide +kernel
theorem d_Mo_check_103 : decode prog_13_method_19_code 103 = .ok (.goto (-56), 3) := by decide +kernel
theorem d_Mo_check_106 : decode prog_13_method_19_code 106 = .ok (.iinc 7 1, 3) := by decide +kernel
theorem d_Mo_check_109 : decode prog_13_method_19_code 109 = .ok (.goto (-72), 3) := by decide +kernel
theorem d_Mo_check_112 : decode prog_13_method_19_code 112 = .ok (.iload 4, 2) := by decide +kernel
theorem d_Mo_check_114 : decode prog_13_method_19_code 114 = .ok (.ireturn, 1) := by decide +kernel
theorem d_Mo_numberByte_0 : decode prog_13_method_20_code 0 = .ok (.iload_n 0, 1) := by decide +kernel
theorem d_Mo_numberByte_1 : decode prog_13_method_20_code 1 = .ok (.sipush 128, 3) := by decide +kernel
theorem d_Mo_numberByte_4 : decode prog_13_method_20_code 4 = .ok (.if_icmp .ge 13, 3) := by decide +kernel
theorem d_Mo_numberByte_7 : decode prog_13_method_20_code 7 = .ok (.iload_n 1, 1) := by decide +kernel
theorem d_Mo_numberByte_8 : decode prog_13_method_20_code 8 = .ok (.ifCond .ne 7, 3) := by decide +kernel
theorem d_Mo_numberByte_11 : decode prog_13_method_20_code 11 = .ok (.iload_n 0, 1) := by decide +kernel
theorem d_Mo_numberByte_12 : decode prog_13_method_20_code 12 = .ok (.goto 4, 3) := by decide +kernel
theorem d_Mo_numberByte_15 : decode prog_13_method_20_code 15 = .ok (.iconst (-1), 1) := by decide +kernel
theorem d_Mo_numberByte_16 : decode prog_13_method_20_code 16 = .ok (.ireturn, 1) := by decide +kernel
theorem d_Mo_numberByte_17 : decode prog_13_method_20_code 17 = .ok (.iload_n 1, 1) := by decide +kernel
theorem d_Mo_numberByte_18 : decode prog_13_method_20_code 18 = .ok (.ifCond .ne 14, 3) := by decide +kernel
theorem d_Mo_numberByte_21 : decode prog_13_method_20_code 21 = .ok (.sipush 192, 3) := by decide +kernel
theorem d_Mo_numberByte_24 : decode prog_13_method_20_code 24 = .ok (.iload_n 0, 1) := by decide +kernel
theorem d_Mo_numberByte_25 : decode prog_13_method_20_code 25 = .ok (.bipush 6, 2) := by decide +kernel
theorem d_Mo_numberByte_27 : decode prog_13_method_20_code 27 = .ok (.ishr, 1) := by decide +kernel
theorem d_Mo_numberByte_28 : decode prog_13_method_20_code 28 = .ok (.ior, 1) := by decide +kernel
theorem d_Mo_numberByte_29 : decode prog_13_method_20_code 29 = .ok (.goto 20, 3) := by decide +kernel
theorem d_Mo_numberByte_32 : decode prog_13_method_20_code 32 = .ok (.iload_n 1, 1) := by decide +kernel
theorem d_Mo_numberByte_33 : decode prog_13_method_20_code 33 = .ok (.iconst 1, 1) := by decide +kernel
theorem d_Mo_numberByte_34 : decode prog_13_method_20_code 34 = .ok (.if_icmp .ne 14, 3) := by decide +kernel
theorem d_Mo_numberByte_37 : decode prog_13_method_20_code 37 = .ok (.sipush 128, 3) := by decide +kernel
theorem d_Mo_numberByte_40 : decode prog_13_method_20_code 40 = .ok (.iload_n 0, 1) := by decide +kernel
theorem d_Mo_numberByte_41 : decode prog_13_method_20_code 41 = .ok (.bipush 63, 2) := by decide +kernel
theorem d_Mo_numberByte_43 : decode prog_13_method_20_code 43 = .ok (.iand, 1) := by decide +kernel
theorem d_Mo_numberByte_44 : decode prog_13_method_20_code 44 = .ok (.ior, 1) := by decide +kernel
theorem d_Mo_numberByte_45 : decode prog_13_method_20_code 45 = .ok (.goto 4, 3) := by decide +kernel
theorem d_Mo_numberByte_48 : decode prog_13_method_20_code 48 = .ok (.iconst (-1), 1) := by decide +kernel
theorem d_Mo_numberByte_49 : decode prog_13_method_20_code 49 = .ok (.ireturn, 1) := by decide +kernel
theorem d_Mo_signal_0 : decode prog_13_method_21_code 0 = .ok (.aload_n 0, 1) := by decide +kernel
theorem d_Mo_signal_1 : decode prog_13_method_21_code 1 = .ok (.getfield 158, 3) := by decide +kernel
theorem d_Mo_signal_4 : decode prog_13_method_21_code 4 = .ok (.iload_n 2, 1) := by decide +kernel
theorem d_Mo_signal_5 : decode prog_13_method_21_code 5 = .ok (.iaload, 1) := by decide +kernel
theorem d_Mo_signal_6 : decode prog_13_method_21_code 6 = .ok (.istore_n 3, 1) := by decide +kernel
theorem d_Mo_signal_7 : decode prog_13_method_21_code 7 = .ok (.aload_n 0, 1) := by decide +kernel
theorem d_Mo_signal_8 : decode prog_13_method_21_code 8 = .ok (.getfield 158, 3) := by decide +kernel
theorem d_Mo_signal_11 : decode prog_13_method_21_code 11 = .ok (.sipush 1200, 3) := by decide +kernel
theorem d_Mo_signal_14 : decode prog_13_method_21_code 14 = .ok (.iload_n 2, 1) := by decide +kernel
theorem d_Mo_signal_15 : decode prog_13_method_21_code 15 = .ok (.iadd, 1) := by decide +kernel
theorem d_Mo_signal_16 : decode prog_13_method_21_code 16 = .ok (.iaload, 1) := by decide +kernel
theorem d_Mo_signal_17 : decode prog_13_method_21_code 17 = .ok (.istore 4, 2) := by decide +kernel
theorem d_Mo_signal_19 : decode prog_13_method_21_code 19 = .ok (.iload_n 1, 1) := by decide +kernel
theorem d_Mo_signal_20 : decode prog_13_method_21_code 20 = .ok (.ifCond .ne 7, 3) := by decide +kernel
theorem d_Mo_signal_23 : decode prog_13_method_21_code 23 = .ok (.iload_n 3, 1) := by decide +kernel
theorem d_Mo_signal_24 : decode prog_13_method_21_code 24 = .ok (.goto 31, 3) := by decide +kernel
theorem d_Mo_signal_27 : decode prog_13_method_21_code 27 = .ok (.iload_n 1, 1) := by decide +kernel
theorem d_Mo_signal_28 : decode prog_13_method_21_code 28 = .ok (.iconst 1, 1) := by decide +kernel
theorem d_Mo_signal_29 : decode prog_13_method_21_code 29 = .ok (.if_icmp .ne 8, 3) := by decide +kernel
theorem d_Mo_signal_32 : decode prog_13_method_21_code 32 = .ok (.iload 4, 2) := by decide +kernel
theorem d_Mo_signal_34 : decode prog_13_method_21_code 34 = .ok (.goto 21, 3) := by decide +kernel
theorem d_Mo_signal_37 : decode prog_13_method_21_code 37 = .ok (.iload_n 1, 1) := by decide +kernel
theorem d_Mo_signal_38 : decode prog_13_method_21_code 38 = .ok (.iconst 2, 1) := by decide +kernel
theorem d_Mo_signal_39 : decode prog_13_method_21_code 39 = .ok (.if_icmp .ne 10, 3) := by decide +kernel
theorem d_Mo_signal_42 : decode prog_13_method_21_code 42 = .ok (.iload_n 3, 1) := by decide +kernel
theorem d_Mo_signal_43 : decode prog_13_method_21_code 43 = .ok (.iload 4, 2) := by decide +kernel
theorem d_Mo_signal_45 : decode prog_13_method_21_code 45 = .ok (.isub, 1) := by decide +kernel
theorem d_Mo_signal_46 : decode prog_13_method_21_code 46 = .ok (.goto 9, 3) := by decide +kernel
theorem d_Mo_signal_49 : decode prog_13_method_21_code 49 = .ok (.iload_n 3, 1) := by decide +kernel
theorem d_Mo_signal_50 : decode prog_13_method_21_code 50 = .ok (.iload 4, 2) := by decide +kernel
theorem d_Mo_signal_52 : decode prog_13_method_21_code 52 = .ok (.iadd, 1) := by decide +kernel
theorem d_Mo_signal_53 : decode prog_13_method_21_code 53 = .ok (.iconst 1, 1) := by decide +kernel
theorem d_Mo_signal_54 : decode prog_13_method_21_code 54 = .ok (.ishr, 1) := by decide +kernel
theorem d_Mo_signal_55 : decode prog_13_method_21_code 55 = .ok (.ireturn, 1) := by decide +kernel
theorem d_Mo_take_0 : decode prog_13_method_22_code 0 = .ok (.iconst 0, 1) := by decide +kernel
theorem d_Mo_take_1 : decode prog_13_method_22_code 1 = .ok (.istore 4, 2) := by decide +kernel
theorem d_Mo_take_3 : decode prog_13_method_22_code 3 = .ok (.iload 4, 2) := by decide +kernel
theorem d_Mo_take_5 : decode prog_13_method_22_code 5 = .ok (.iload_n 3, 1) := by decide +kernel
theorem d_Mo_take_6 : decode prog_13_method_22_code 6 = .ok (.if_icmp .ge 25, 3) := by decide +kernel
theorem d_Mo_take_9 : decode prog_13_method_22_code 9 = .ok (.aload_n 0, 1) := by decide +kernel
theorem d_Mo_take_10 : decode prog_13_method_22_code 10 = .ok (.getfield 176, 3) := by decide +kernel
theorem d_Mo_take_13 : decode prog_13_method_22_code 13 = .ok (.iload 4, 2) := by decide +kernel
theorem d_Mo_take_15 : decode prog_13_method_22_code 15 = .ok (.aload_n 0, 1) := by decide +kernel
theorem d_Mo_take_16 : decode prog_13_method_22_code 16 = .ok (.iload_n 1, 1) := by decide +kernel
theorem d_Mo_take_17 : decode prog_13_method_22_code 17 = .ok (.iload_n 2, 1) := by decide +kernel
theorem d_Mo_take_18 : decode prog_13_method_22_code 18 = .ok (.iload 4, 2) := by decide +kernel
theorem d_Mo_take_20 : decode prog_13_method_22_code 20 = .ok (.iadd, 1) := by decide +kernel
theorem d_Mo_take_21 : decode prog_13_method_22_code 21 = .ok (.invokevirtual 250, 3) := by decide +kernel
theorem d_Mo_take_24 : decode prog_13_method_22_code 24 = .ok (.iastore, 1) := by decide +kernel
theorem d_Mo_take_25 : decode prog_13_method_22_code 25 = .ok (.iinc 4 1, 3) := by decide +kernel
theorem d_Mo_take_28 : decode prog_13_method_22_code 28 = .ok (.goto (-25), 3) := by decide +kernel
theorem d_Mo_take_31 : decode prog_13_method_22_code 31 = .ok (.return_, 1) := by decide +kernel
theorem d_Mo_wasted_0 : decode prog_13_method_23_code 0 = .ok (.iconst 0, 1) := by decide +kernel
theorem d_Mo_wasted_1 : decode prog_13_method_23_code 1 = .ok (.istore_n 2, 1) := by decide +kernel
theorem d_Mo_wasted_2 : decode prog_13_method_23_code 2 = .ok (.iconst 0, 1) := by decide +kernel
theorem d_Mo_wasted_3 : decode prog_13_method_23_code 3 = .ok (.istore_n 3, 1) := by decide +kernel
theorem d_Mo_wasted_4 : decode prog_13_method_23_code 4 = .ok (.iload_n 3, 1) := by decide +kernel
theorem d_Mo_wasted_5 : decode prog_13_method_23_code 5 = .ok (.iload_n 1, 1) := by decide +kernel
theorem d_Mo_wasted_6 : decode prog_13_method_23_code 6 = .ok (.if_icmp .ge 18, 3) := by decide +kernel
theorem d_Mo_wasted_9 : decode prog_13_method_23_code 9 = .ok (.iload_n 2, 1) := by decide +kernel
theorem d_Mo_wasted_10 : decode prog_13_method_23_code 10 = .ok (.aload_n 0, 1) := by decide +kernel
theorem d_Mo_wasted_11 : decode prog_13_method_23_code 11 = .ok (.getfield 176, 3) := by decide +kernel
theorem d_Mo_wasted_14 : decode prog_13_method_23_code 14 = .ok (.iload_n 3, 1) := by decide +kernel
theorem d_Mo_wasted_15 : decode prog_13_method_23_code 15 = .ok (.iaload, 1) := by decide +kernel
theorem d_Mo_wasted_16 : decode prog_13_method_23_code 16 = .ok (.ior, 1) := by decide +kernel
theorem d_Mo_wasted_17 : decode prog_13_method_23_code 17 = .ok (.istore_n 2, 1) := by decide +kernel
theorem d_Mo_wasted_18 : decode prog_13_method_23_code 18 = .ok (.iinc 3 1, 3) := by decide +kernel
theorem d_Mo_wasted_21 : decode prog_13_method_23_code 21 = .ok (.goto (-17), 3) := by decide +kernel
theorem d_Mo_wasted_24 : decode prog_13_method_23_code 24 = .ok (.iconst 0, 1) := by decide +kernel
theorem d_Mo_wasted_25 : decode prog_13_method_23_code 25 = .ok (.istore_n 3, 1) := by decide +kernel
theorem d_Mo_wasted_26 : decode prog_13_method_23_code 26 = .ok (.iload_n 2, 1) := by decide +kernel
theorem d_Mo_wasted_27 : decode prog_13_method_23_code 27 = .ok (.ifCond .eq 17, 3) := by decide +kernel
theorem d_Mo_wasted_30 : decode prog_13_method_23_code 30 = .ok (.iload_n 2, 1) := by decide +kernel
theorem d_Mo_wasted_31 : decode prog_13_method_23_code 31 = .ok (.iload_n 3, 1) := by decide +kernel
theorem d_Mo_wasted_32 : decode prog_13_method_23_code 32 = .ok (.ishr, 1) := by decide +kernel
theorem d_Mo_wasted_33 : decode prog_13_method_23_code 33 = .ok (.iconst 1, 1) := by decide +kernel
theorem d_Mo_wasted_34 : decode prog_13_method_23_code 34 = .ok (.iand, 1) := by decide +kernel
theorem d_Mo_wasted_35 : decode prog_13_method_23_code 35 = .ok (.ifCond .ne 9, 3) := by decide +kernel
theorem d_Mo_wasted_38 : decode prog_13_method_23_code 38 = .ok (.iinc 3 1, 3) := by decide +kernel
theorem d_Mo_wasted_41 : decode prog_13_method_23_code 41 = .ok (.goto (-15), 3) := by decide +kernel
theorem d_Mo_wasted_44 : decode prog_13_method_23_code 44 = .ok (.iload_n 3, 1) := by decide +kernel
theorem d_Mo_wasted_45 : decode prog_13_method_23_code 45 = .ok (.ireturn, 1) := by decide +kernel
theorem d_Mo_shifted_0 : decode prog_13_method_24_code 0 = .ok (.aload_n 0, 1) := by decide +kernel
theorem d_Mo_shifted_1 : decode prog_13_method_24_code 1 = .ok (.getfield 176, 3) := by decide +kernel
theorem d_Mo_shifted_4 : decode prog_13_method_24_code 4 = .ok (.iload_n 1, 1) := by decide +kernel
theorem d_Mo_shifted_5 : decode prog_13_method_24_code 5 = .ok (.iaload, 1) := by decide +kernel
theorem d_Mo_shifted_6 : decode prog_13_method_24_code 6 = .ok (.aload_n 0, 1) := by decide +kernel
theorem d_Mo_shifted_7 : decode prog_13_method_24_code 7 = .ok (.getfield 253, 3) := by decide +kernel
theorem d_Mo_shifted_10 : decode prog_13_method_24_code 10 = .ok (.ishr, 1) := by decide +kernel
theorem d_Mo_shifted_11 : decode prog_13_method_24_code 11 = .ok (.ireturn, 1) := by decide +kernel
theorem d_Mo_folded_0 : decode prog_13_method_25_code 0 = .ok (.iload_n 0, 1) := by decide +kernel
theorem d_Mo_folded_1 : decode prog_13_method_25_code 1 = .ok (.ifCond .lt 9, 3) := by decide +kernel
theorem d_Mo_folded_4 : decode prog_13_method_25_code 4 = .ok (.iconst 2, 1) := by decide +kernel
theorem d_Mo_folded_5 : decode prog_13_method_25_code 5 = .ok (.iload_n 0, 1) := by decide +kernel
theorem d_Mo_folded_6 : decode prog_13_method_25_code 6 = .ok (.imul, 1) := by decide +kernel
theorem d_Mo_folded_7 : decode prog_13_method_25_code 7 = .ok (.goto 9, 3) := by decide +kernel
theorem d_Mo_folded_10 : decode prog_13_method_25_code 10 = .ok (.bipush (-2), 2) := by decide +kernel
theorem d_Mo_folded_12 : decode prog_13_method_25_code 12 = .ok (.iload_n 0, 1) := by decide +kernel
theorem d_Mo_folded_13 : decode prog_13_method_25_code 13 = .ok (.imul, 1) := by decide +kernel
theorem d_Mo_folded_14 : decode prog_13_method_25_code 14 = .ok (.iconst 1, 1) := by decide +kernel
theorem d_Mo_folded_15 : decode prog_13_method_25_code 15 = .ok (.isub, 1) := by decide +kernel
theorem d_Mo_folded_16 : decode prog_13_method_25_code 16 = .ok (.ireturn, 1) := by decide +kernel
theorem d_Mo_leave_0 : decode prog_13_method_26_code 0 = .ok (.iload_n 1, 1) := by decide +kernel
theorem d_Mo_leave_1 : decode prog_13_method_26_code 1 = .ok (.istore_n 3, 1) := by decide +kernel
theorem d_Mo_leave_2 : decode prog_13_method_26_code 2 = .ok (.iload_n 3, 1) := by decide +kernel
theorem d_Mo_leave_3 : decode prog_13_method_26_code 3 = .ok (.iload_n 2, 1) := by decide +kernel
theorem d_Mo_leave_4 : decode prog_13_method_26_code 4 = .ok (.if_icmp .ge 146, 3) := by decide +kernel
theorem d_Mo_leave_7 : decode prog_13_method_26_code 7 = .ok (.iload_n 1, 1) := by decide +kernel
theorem d_Mo_leave_8 : decode prog_13_method_26_code 8 = .ok (.ifCond .ne 7, 3) := by decide +kernel
theorem d_Mo_leave_11 : decode prog_13_method_26_code 11 = .ok (.iconst 0, 1) := by decide +kernel
theorem d_Mo_leave_12 : decode prog_13_method_26_code 12 = .ok (.goto 116, 3) := by decide +kernel
theorem d_Mo_leave_15 : decode prog_13_method_26_code 15 = .ok (.iload_n 1, 1) := by decide +kernel
theorem d_Mo_leave_16 : decode prog_13_method_26_code 16 = .ok (.iconst 1, 1) := by decide +kernel
theorem d_Mo_leave_17 : decode prog_13_method_26_code 17 = .ok (.if_icmp .ne 13, 3) := by decide +kernel
theorem d_Mo_leave_20 : decode prog_13_method_26_code 20 = .ok (.aload_n 0, 1) := by decide +kernel
theorem d_Mo_leave_21 : decode prog_13_method_26_code 21 = .ok (.iload_n 3, 1) := by decide +kernel
theorem d_Mo_leave_22 : decode prog_13_method_26_code 22 = .ok (.iconst 1, 1) := by decide +kernel
theorem d_Mo_leave_23 : decode prog_13_method_26_code 23 = .ok (.isub, 1) := by decide +kernel
theorem d_Mo_leave_24 : decode prog_13_method_26_code 24 = .ok (.invokevirtual 256, 3) := by decide +kernel
theorem d_Mo_leave_27 : decode prog_13_method_26_code 27 = .ok (.goto 101, 3) := by decide +kernel
theorem d_Mo_leave_30 : decode prog_13_method_26_code 30 = .ok (.iload_n 1, 1) := by decide +kernel
theorem d_Mo_leave_31 : decode prog_13_method_26_code 31 = .ok (.iconst 2, 1) := by decide +kernel
theorem d_Mo_leave_32 : decode prog_13_method_26_code 32 = .ok (.if_icmp .ne 23, 3) := by decide +kernel
theorem d_Mo_leave_35 : decode prog_13_method_26_code 35 = .ok (.iconst 2, 1) := by decide +kernel
theorem d_Mo_leave_36 : decode prog_13_method_26_code 36 = .ok (.aload_n 0, 1) := by decide +kernel
theorem d_Mo_leave_37 : decode prog_13_method_26_code 37 = .ok (.iload_n 3, 1) := by decide +kernel
theorem d_Mo_leave_38 : decode prog_13_method_26_code 38 = .ok (.iconst 1, 1) := by decide +kernel
theorem d_Mo_leave_39 : decode prog_13_method_26_code 39 = .ok (.isub, 1) := by decide +kernel
theorem d_Mo_leave_40 : decode prog_13_method_26_code 40 = .ok (.invokevirtual 256, 3) := by decide +kernel
theorem d_Mo_leave_43 : decode prog_13_method_26_code 43 = .ok (.imul, 1) := by decide +kernel
theorem d_Mo_leave_44 : decode prog_13_method_26_code 44 = .ok (.aload_n 0, 1) := by decide +kernel
theorem d_Mo_leave_45 : decode prog_13_method_26_code 45 = .ok (.iload_n 3, 1) := by decide +kernel
theorem d_Mo_leave_46 : decode prog_13_method_26_code 46 = .ok (.iconst 2, 1) := by decide +kernel
theorem d_Mo_leave_47 : decode prog_13_method_26_code 47 = .ok (.isub, 1) := by decide +kernel
theorem d_Mo_leave_48 : decode prog_13_method_26_code 48 = .ok (.invokevirtual 256, 3) := by decide +kernel
theorem d_Mo_leave_51 : decode prog_13_method_26_code 51 = .ok (.isub, 1) := by decide +kernel
theorem d_Mo_leave_52 : decode prog_13_method_26_code 52 = .ok (.goto 76, 3) := by decide +kernel
theorem d_Mo_leave_55 : decode prog_13_method_26_code 55 = .ok (.iload_n 1, 1) := by decide +kernel
theorem d_Mo_leave_56 : decode prog_13_method_26_code 56 = .ok (.iconst 3, 1) := by decide +kernel
theorem d_Mo_leave_57 : decode prog_13_method_26_code 57 = .ok (.if_icmp .ne 33, 3) := by decide +kernel
theorem d_Mo_leave_60 : decode prog_13_method_26_code 60 = .ok (.iconst 3, 1) := by decide +kernel
theorem d_Mo_leave_61 : decode prog_13_method_26_code 61 = .ok (.aload_n 0, 1) := by decide +kernel
theorem d_Mo_leave_62 : decode prog_13_method_26_code 62 = .ok (.iload_n 3, 1) := by decide +kernel
theorem d_Mo_leave_63 : decode prog_13_method_26_code 63 = .ok (.iconst 1, 1) := by decide +kernel
theorem d_Mo_leave_64 : decode prog_13_method_26_code 64 = .ok (.isub, 1) := by decide +kernel
theorem d_Mo_leave_65 : decode prog_13_method_26_code 65 = .ok (.invokevirtual 256, 3) := by decide +kernel
theorem d_Mo_leave_68 : decode prog_13_method_26_code 68 = .ok (.imul, 1) := by decide +kernel
theorem d_Mo_leave_69 : decode prog_13_method_26_code 69 = .ok (.iconst 3, 1) := by decide +kernel
theorem d_Mo_leave_70 : decode prog_13_method_26_code 70 = .ok (.aload_n 0, 1) := by decide +kernel
theorem d_Mo_leave_71 : decode prog_13_method_26_code 71 = .ok (.iload_n 3, 1) := by decide +kernel
theorem d_Mo_leave_72 : decode prog_13_method_26_code 72 = .ok (.iconst 2, 1) := by decide +kernel
theorem d_Mo_leave_73 : decode prog_13_method_26_code 73 = .ok (.isub, 1) := by decide +kernel
theorem d_Mo_leave_74 : decode prog_13_method_26_code 74 = .ok (.invokevirtual 256, 3) := by decide +kernel
theorem d_Mo_leave_77 : decode prog_13_method_26_code 77 = .ok (.imul, 1) := by decide +kernel
theorem d_Mo_leave_78 : decode prog_13_method_26_code 78 = .ok (.isub, 1) := by decide +kernel
theorem d_Mo_leave_79 : decode prog_13_method_26_code 79 = .ok (.aload_n 0, 1) := by decide +kernel
theorem d_Mo_leave_80 : decode prog_13_method_26_code 80 = .ok (.iload_n 3, 1) := by decide +kernel
theorem d_Mo_leave_81 : decode prog_13_method_26_code 81 = .ok (.iconst 3, 1) := by decide +kernel
theorem d_Mo_leave_82 : decode prog_13_method_26_code 82 = .ok (.isub, 1) := by decide +kernel
theorem d_Mo_leave_83 : decode prog_13_method_26_code 83 = .ok (.invokevirtual 256, 3) := by decide +kernel
theorem d_Mo_leave_86 : decode prog_13_method_26_code 86 = .ok (.iadd, 1) := by decide +kernel
theorem d_Mo_leave_87 : decode prog_13_method_26_code 87 = .ok (.goto 41, 3) := by decide +kernel
theorem d_Mo_leave_90 : decode prog_13_method_26_code 90 = .ok (.iconst 4, 1) := by decide +kernel
theorem d_Mo_leave_91 : decode prog_13_method_26_code 91 = .ok (.aload_n 0, 1) := by decide +kernel
theorem d_Mo_leave_92 : decode prog_13_method_26_code 92 = .ok (.iload_n 3, 1) := by decide +kernel
theorem d_Mo_leave_93 : decode prog_13_method_26_code 93 = .ok (.iconst 1, 1) := by decide +kernel
theorem d_Mo_leave_94 : decode prog_13_method_26_code 94 = .ok (.isub, 1) := by decide +kernel
theorem d_Mo_leave_95 : decode prog_13_method_26_code 95 = .ok (.invokevirtual 256, 3) := by decide +kernel
theorem d_Mo_leave_98 : decode prog_13_method_26_code 98 = .ok (.imul, 1) := by decide +kernel
theorem d_Mo_leave_99 : decode prog_13_method_26_code 99 = .ok (.bipush 6, 2) := by decide +kernel
theorem d_Mo_leave_101 : decode prog_13_method_26_code 101 = .ok (.aload_n 0, 1) := by decide +kernel
theorem d_Mo_leave_102 : decode prog_13_method_26_code 102 = .ok (.iload_n 3, 1) := by decide +kernel
theorem d_Mo_leave_103 : decode prog_13_method_26_code 103 = .ok (.iconst 2, 1) := by decide +kernel
theorem d_Mo_leave_104 : decode prog_13_method_26_code 104 = .ok (.isub, 1) := by decide +kernel
theorem d_Mo_leave_105 : decode prog_13_method_26_code 105 = .ok (.invokevirtual 256, 3) := by decide +kernel
theorem d_Mo_leave_108 : decode prog_13_method_26_code 108 = .ok (.imul, 1) := by decide +kernel
theorem d_Mo_leave_109 : decode prog_13_method_26_code 109 = .ok (.isub, 1) := by decide +kernel
theorem d_Mo_leave_110 : decode prog_13_method_26_code 110 = .ok (.iconst 4, 1) := by decide +kernel
theorem d_Mo_leave_111 : decode prog_13_method_26_code 111 = .ok (.aload_n 0, 1) := by decide +kernel
theorem d_Mo_leave_112 : decode prog_13_method_26_code 112 = .ok (.iload_n 3, 1) := by decide +kernel
theorem d_Mo_leave_113 : decode prog_13_method_26_code 113 = .ok (.iconst 3, 1) := by decide +kernel
theorem d_Mo_leave_114 : decode prog_13_method_26_code 114 = .ok (.isub, 1) := by decide +kernel
theorem d_Mo_leave_115 : decode prog_13_method_26_code 115 = .ok (.invokevirtual 256, 3) := by decide +kernel
theorem d_Mo_leave_118 : decode prog_13_method_26_code 118 = .ok (.imul, 1) := by decide +kernel
theorem d_Mo_leave_119 : decode prog_13_method_26_code 119 = .ok (.iadd, 1) := by decide +kernel
theorem d_Mo_leave_120 : decode prog_13_method_26_code 120 = .ok (.aload_n 0, 1) := by decide +kernel
theorem d_Mo_leave_121 : decode prog_13_method_26_code 121 = .ok (.iload_n 3, 1) := by decide +kernel
theorem d_Mo_leave_122 : decode prog_13_method_26_code 122 = .ok (.iconst 4, 1) := by decide +kernel
theorem d_Mo_leave_123 : decode prog_13_method_26_code 123 = .ok (.isub, 1) := by decide +kernel
theorem d_Mo_leave_124 : decode prog_13_method_26_code 124 = .ok (.invokevirtual 256, 3) := by decide +kernel
theorem d_Mo_leave_127 : decode prog_13_method_26_code 127 = .ok (.isub, 1) := by decide +kernel
theorem d_Mo_leave_128 : decode prog_13_method_26_code 128 = .ok (.istore 4, 2) := by decide +kernel
theorem d_Mo_leave_130 : decode prog_13_method_26_code 130 = .ok (.aload_n 0, 1) := by decide +kernel
theorem d_Mo_leave_131 : decode prog_13_method_26_code 131 = .ok (.getfield 179, 3) := by decide +kernel
theorem d_Mo_leave_134 : decode prog_13_method_26_code 134 = .ok (.iload_n 3, 1) := by decide +kernel
theorem d_Mo_leave_135 : decode prog_13_method_26_code 135 = .ok (.aload_n 0, 1) := by decide +kernel
theorem d_Mo_leave_136 : decode prog_13_method_26_code 136 = .ok (.iload_n 3, 1) := by decide +kernel
theorem d_Mo_leave_137 : decode prog_13_method_26_code 137 = .ok (.invokevirtual 256, 3) := by decide +kernel
theorem d_Mo_leave_140 : decode prog_13_method_26_code 140 = .ok (.iload 4, 2) := by decide +kernel
theorem d_Mo_leave_142 : decode prog_13_method_26_code 142 = .ok (.isub, 1) := by decide +kernel
theorem d_Mo_leave_143 : decode prog_13_method_26_code 143 = .ok (.iastore, 1) := by decide +kernel
theorem d_Mo_leave_144 : decode prog_13_method_26_code 144 = .ok (.iinc 3 1, 3) := by decide +kernel
theorem d_Mo_leave_147 : decode prog_13_method_26_code 147 = .ok (.goto (-145), 3) := by decide +kernel
theorem d_Mo_leave_150 : decode prog_13_method_26_code 150 = .ok (.return_, 1) := by decide +kernel
theorem d_Mo_room_0 : decode prog_13_method_27_code 0 = .ok (.iconst 0, 1) := by decide +kernel
theorem d_Mo_room_1 : decode prog_13_method_27_code 1 = .ok (.istore_n 3, 1) := by decide +kernel
theorem d_Mo_room_2 : decode prog_13_method_27_code 2 = .ok (.iload_n 1, 1) := by decide +kernel
theorem d_Mo_room_3 : decode prog_13_method_27_code 3 = .ok (.istore 4, 2) := by decide +kernel
theorem d_Mo_room_5 : decode prog_13_method_27_code 5 = .ok (.iload 4, 2) := by decide +kernel
theorem d_Mo_room_7 : decode prog_13_method_27_code 7 = .ok (.iload_n 2, 1) := by decide +kernel
theorem d_Mo_room_8 : decode prog_13_method_27_code 8 = .ok (.if_icmp .ge 91, 3) := by decide +kernel
theorem d_Mo_room_11 : decode prog_13_method_27_code 11 = .ok (.aload_n 0, 1) := by decide +kernel
theorem d_Mo_room_12 : decode prog_13_method_27_code 12 = .ok (.getfield 179, 3) := by decide +kernel
theorem d_Mo_room_15 : decode prog_13_method_27_code 15 = .ok (.iload 4, 2) := by decide +kernel
theorem d_Mo_room_17 : decode prog_13_method_27_code 17 = .ok (.iaload, 1) := by decide +kernel
theorem d_Mo_room_18 : decode prog_13_method_27_code 18 = .ok (.ifCond .ge 15, 3) := by decide +kernel
theorem d_Mo_room_21 : decode prog_13_method_27_code 21 = .ok (.aload_n 0, 1) := by decide +kernel
theorem d_Mo_room_22 : decode prog_13_method_27_code 22 = .ok (.getfield 179, 3) := by decide +kernel
theorem d_Mo_room_25 : decode prog_13_method_27_code 25 = .ok (.iload 4, 2) := by decide +kernel
theorem d_Mo_room_27 : decode prog_13_method_27_code 27 = .ok (.iaload, 1) := by decide +kernel
theorem d_Mo_room_28 : decode prog_13_method_27_code 28 = .ok (.iconst (-1), 1) := by decide +kernel
theorem d_Mo_room_29 : decode prog_13_method_27_code 29 = .ok (.ixor, 1) := by decide +kernel
theorem d_Mo_room_30 : decode prog_13_method_27_code 30 = .ok (.goto 10, 3) := by decide +kernel
theorem d_Mo_room_33 : decode prog_13_method_27_code 33 = .ok (.aload_n 0, 1) := by decide +kernel
theorem d_Mo_room_34 : decode prog_13_method_27_code 34 = .ok (.getfield 179, 3) := by decide +kernel
theorem d_Mo_room_37 : decode prog_13_method_27_code 37 = .ok (.iload 4, 2) := by decide +kernel
theorem d_Mo_room_39 : decode prog_13_method_27_code 39 = .ok (.iaload, 1) := by decide +kernel
theorem d_Mo_room_40 : decode prog_13_method_27_code 40 = .ok (.istore 5, 2) := by decide +kernel
theorem d_Mo_room_42 : decode prog_13_method_27_code 42 = .ok (.aload_n 0, 1) := by decide +kernel
theorem d_Mo_room_43 : decode prog_13_method_27_code 43 = .ok (.getfield 179, 3) := by decide +kernel
theorem d_Mo_room_46 : decode prog_13_method_27_code 46 = .ok (.iload 4, 2) := by decide +kernel
theorem d_Mo_room_48 : decode prog_13_method_27_code 48 = .ok (.iaload, 1) := by decide +kernel
theorem d_Mo_room_49 : decode prog_13_method_27_code 49 = .ok (.ifCond .ne 7, 3) := by decide +kernel
theorem d_Mo_room_52 : decode prog_13_method_27_code 52 = .ok (.iconst 0, 1) := by decide +kernel
theorem d_Mo_room_53 : decode prog_13_method_27_code 53 = .ok (.goto 4, 3) := by decide +kernel
theorem d_Mo_room_56 : decode prog_13_method_27_code 56 = .ok (.iconst 1, 1) := by decide +kernel
theorem d_Mo_room_57 : decode prog_13_method_27_code 57 = .ok (.istore 6, 2) := by decide +kernel
theorem d_Mo_room_59 : decode prog_13_method_27_code 59 = .ok (.iload 5, 2) := by decide +kernel
theorem d_Mo_room_61 : decode prog_13_method_27_code 61 = .ok (.istore 7, 2) := by decide +kernel
theorem d_Mo_room_63 : decode prog_13_method_27_code 63 = .ok (.iload 7, 2) := by decide +kernel
theorem d_Mo_room_65 : decode prog_13_method_27_code 65 = .ok (.ifCond .le 15, 3) := by decide +kernel
theorem d_Mo_room_68 : decode prog_13_method_27_code 68 = .ok (.iinc 6 1, 3) := by decide +kernel
theorem d_Mo_room_71 : decode prog_13_method_27_code 71 = .ok (.iload 7, 2) := by decide +kernel
theorem d_Mo_room_73 : decode prog_13_method_27_code 73 = .ok (.iconst 1, 1) := by decide +kernel
theorem d_Mo_room_74 : decode prog_13_method_27_code 74 = .ok (.ishr, 1) := by decide +kernel
theorem d_Mo_room_75 : decode prog_13_method_27_code 75 = .ok (.istore 7, 2) := by decide +kernel
theorem d_Mo_room_77 : decode prog_13_method_27_code 77 = .ok (.goto (-14), 3) := by decide +kernel
theorem d_Mo_room_80 : decode prog_13_method_27_code 80 = .ok (.iload 6, 2) := by decide +kernel
theorem d_Mo_room_82 : decode prog_13_method_27_code 82 = .ok (.iload_n 3, 1) := by decide +kernel
theorem d_Mo_room_83 : decode prog_13_method_27_code 83 = .ok (.if_icmp .le 8, 3) := by decide +kernel
theorem d_Mo_room_86 : decode prog_13_method_27_code 86 = .ok (.iload 6, 2) := by decide +kernel
theorem d_Mo_room_88 : decode prog_13_method_27_code 88 = .ok (.goto 4, 3) := by decide +kernel
theorem d_Mo_room_91 : decode prog_13_method_27_code 91 = .ok (.iload_n 3, 1) := by decide +kernel
theorem d_Mo_room_92 : decode prog_13_method_27_code 92 = .ok (.istore_n 3, 1) := by decide +kernel
theorem d_Mo_room_93 : decode prog_13_method_27_code 93 = .ok (.iinc 4 1, 3) := by decide +kernel
theorem d_Mo_room_96 : decode prog_13_method_27_code 96 = .ok (.goto (-91), 3) := by decide +kernel
theorem d_Mo_room_99 : decode prog_13_method_27_code 99 = .ok (.iload_n 3, 1) := by decide +kernel
theorem d_Mo_room_100 : decode prog_13_method_27_code 100 = .ok (.ireturn, 1) := by decide +kernel
theorem d_Mo_partCost_0 : decode prog_13_method_28_code 0 = .ok (.iload_n 3, 1) := by decide +kernel
theorem d_Mo_partCost_1 : decode prog_13_method_28_code 1 = .ok (.bipush 15, 2) := by decide +kernel
theorem d_Mo_partCost_3 : decode prog_13_method_28_code 3 = .ok (.if_icmp .ne 20, 3) := by decide +kernel
theorem d_Mo_partCost_6 : decode prog_13_method_28_code 6 = .ok (.ldc2_w 259, 3) := by decide +kernel
theorem d_Mo_partCost_9 : decode prog_13_method_28_code 9 = .ok (.iload_n 2, 1) := by decide +kernel
theorem d_Mo_partCost_10 : decode prog_13_method_28_code 10 = .ok (.iload_n 1, 1) := by decide +kernel
theorem d_Mo_partCost_11 : decode prog_13_method_28_code 11 = .ok (.isub, 1) := by decide +kernel
theorem d_Mo_partCost_12 : decode prog_13_method_28_code 12 = .ok (.i2l, 1) := by decide +kernel
theorem d_Mo_partCost_13 : decode prog_13_method_28_code 13 = .ok (.aload_n 0, 1) := by decide +kernel
theorem d_Mo_partCost_14 : decode prog_13_method_28_code 14 = .ok (.iload_n 1, 1) := by decide +kernel
theorem d_Mo_partCost_15 : decode prog_13_method_28_code 15 = .ok (.iload_n 2, 1) := by decide +kernel
theorem d_Mo_partCost_16 : decode prog_13_method_28_code 16 = .ok (.invokevirtual 261, 3) := by decide +kernel
theorem d_Mo_partCost_19 : decode prog_13_method_28_code 19 = .ok (.i2l, 1) := by decide +kernel
theorem d_Mo_partCost_20 : decode prog_13_method_28_code 20 = .ok (.lmul, 1) := by decide +kernel
theorem d_Mo_partCost_21 : decode prog_13_method_28_code 21 = .ok (.ladd, 1) := by decide +kernel
theorem d_Mo_partCost_22 : decode prog_13_method_28_code 22 = .ok (.lreturn, 1) := by decide +kernel
theorem d_Mo_partCost_23 : decode prog_13_method_28_code 23 = .ok (.ldc2_w 264, 3) := by decide +kernel
theorem d_Mo_partCost_26 : decode prog_13_method_28_code 26 = .ok (.lstore 4, 2) := by decide +kernel
theorem d_Mo_partCost_28 : decode prog_13_method_28_code 28 = .ok (.iload_n 1, 1) := by decide +kernel
theorem d_Mo_partCost_29 : decode prog_13_method_28_code 29 = .ok (.istore 6, 2) := by decide +kernel
theorem d_Mo_partCost_31 : decode prog_13_method_28_code 31 = .ok (.iload 6, 2) := by decide +kernel
theorem d_Mo_partCost_33 : decode prog_13_method_28_code 33 = .ok (.iload_n 2, 1) := by decide +kernel
theorem d_Mo_partCost_34 : decode prog_13_method_28_code 34 = .ok (.if_icmp .ge 32, 3) := by decide +kernel
theorem d_Mo_partCost_37 : decode prog_13_method_28_code 37 = .ok (.lload 4, 2) := by decide +kernel
theorem d_Mo_partCost_39 : decode prog_13_method_28_code 39 = .ok (.aload_n 0, 1) := by decide +kernel
theorem d_Mo_partCost_40 : decode prog_13_method_28_code 40 = .ok (.getfield 179, 3) := by decide +kernel
theorem d_Mo_partCost_43 : decode prog_13_method_28_code 43 = .ok (.iload 6, 2) := by decide +kernel
theorem d_Mo_partCost_45 : decode prog_13_method_28_code 45 = .ok (.iaload, 1) := by decide +kernel
theorem d_Mo_partCost_46 : decode prog_13_method_28_code 46 = .ok (.invokestatic 266, 3) := by decide +kernel
theorem d_Mo_partCost_49 : decode prog_13_method_28_code 49 = .ok (.iload_n 3, 1) := by decide +kernel
theorem d_Mo_partCost_50 : decode prog_13_method_28_code 50 = .ok (.ishr, 1) := by decide +kernel
theorem d_Mo_partCost_51 : decode prog_13_method_28_code 51 = .ok (.i2l, 1) := by decide +kernel
theorem d_Mo_partCost_52 : decode prog_13_method_28_code 52 = .ok (.ladd, 1) := by decide +kernel
theorem d_Mo_partCost_53 : decode prog_13_method_28_code 53 = .ok (.lconst 1, 1) := by decide +kernel
theorem d_Mo_partCost_54 : decode prog_13_method_28_code 54 = .ok (.ladd, 1) := by decide +kernel
theorem d_Mo_partCost_55 : decode prog_13_method_28_code 55 = .ok (.iload_n 3, 1) := by decide +kernel
theorem d_Mo_partCost_56 : decode prog_13_method_28_code 56 = .ok (.i2l, 1) := by decide +kernel
theorem d_Mo_partCost_57 : decode prog_13_method_28_code 57 = .ok (.ladd, 1) := by decide +kernel
theorem d_Mo_partCost_58 : decode prog_13_method_28_code 58 = .ok (.lstore 4, 2) := by decide +kernel
theorem d_Mo_partCost_60 : decode prog_13_method_28_code 60 = .ok (.iinc 6 1, 3) := by decide +kernel
theorem d_Mo_partCost_63 : decode prog_13_method_28_code 63 = .ok (.goto (-32), 3) := by decide +kernel
theorem d_Mo_partCost_66 : decode prog_13_method_28_code 66 = .ok (.lload 4, 2) := by decide +kernel
theorem d_Mo_partCost_68 : decode prog_13_method_28_code 68 = .ok (.lreturn, 1) := by decide +kernel
theorem d_Mo_bestK_0 : decode prog_13_method_29_code 0 = .ok (.iconst 0, 1) := by decide +kernel
theorem d_Mo_bestK_1 : decode prog_13_method_29_code 1 = .ok (.istore_n 3, 1) := by decide +kernel
theorem d_Mo_bestK_2 : decode prog_13_method_29_code 2 = .ok (.iconst 1, 1) := by decide +kernel
theorem d_Mo_bestK_3 : decode prog_13_method_29_code 3 = .ok (.istore 4, 2) := by decide +kernel
theorem d_Mo_bestK_5 : decode prog_13_method_29_code 5 = .ok (.iload 4, 2) := by decide +kernel
theorem d_Mo_bestK_7 : decode prog_13_method_29_code 7 = .ok (.bipush 16, 2) := by decide +kernel
theorem d_Mo_bestK_9 : decode prog_13_method_29_code 9 = .ok (.if_icmp .ge 35, 3) := by decide +kernel
theorem d_Mo_bestK_12 : decode prog_13_method_29_code 12 = .ok (.aload_n 0, 1) := by decide +kernel
theorem d_Mo_bestK_13 : decode prog_13_method_29_code 13 = .ok (.iload_n 1, 1) := by decide +kernel
theorem d_Mo_bestK_14 : decode prog_13_method_29_code 14 = .ok (.iload_n 2, 1) := by decide +kernel
theorem d_Mo_bestK_15 : decode prog_13_method_29_code 15 = .ok (.iload 4, 2) := by decide +kernel
theorem d_Mo_bestK_17 : decode prog_13_method_29_code 17 = .ok (.invokevirtual 269, 3) := by decide +kernel
theorem d_Mo_bestK_20 : decode prog_13_method_29_code 20 = .ok (.aload_n 0, 1) := by decide +kernel
theorem d_Mo_bestK_21 : decode prog_13_method_29_code 21 = .ok (.iload_n 1, 1) := by decide +kernel
theorem d_Mo_bestK_22 : decode prog_13_method_29_code 22 = .ok (.iload_n 2, 1) := by decide +kernel
theorem d_Mo_bestK_23 : decode prog_13_method_29_code 23 = .ok (.iload_n 3, 1) := by decide +kernel
theorem d_Mo_bestK_24 : decode prog_13_method_29_code 24 = .ok (.invokevirtual 269, 3) := by decide +kernel
theorem d_Mo_bestK_27 : decode prog_13_method_29_code 27 = .ok (.lcmp, 1) := by decide +kernel
theorem d_Mo_bestK_28 : decode prog_13_method_29_code 28 = .ok (.ifCond .ge 8, 3) := by decide +kernel
theorem d_Mo_bestK_31 : decode prog_13_method_29_code 31 = .ok (.iload 4, 2) := by decide +kernel
theorem d_Mo_bestK_33 : decode prog_13_method_29_code 33 = .ok (.goto 4, 3) := by decide +kernel
theorem d_Mo_bestK_36 : decode prog_13_method_29_code 36 = .ok (.iload_n 3, 1) := by decide +kernel
theorem d_Mo_bestK_37 : decode prog_13_method_29_code 37 = .ok (.istore_n 3, 1) := by decide +kernel
theorem d_Mo_bestK_38 : decode prog_13_method_29_code 38 = .ok (.iinc 4 1, 3) := by decide +kernel
theorem d_Mo_bestK_41 : decode prog_13_method_29_code 41 = .ok (.goto (-36), 3) := by decide +kernel
theorem d_Mo_bestK_44 : decode prog_13_method_29_code 44 = .ok (.iload_n 3, 1) := by decide +kernel
theorem d_Mo_bestK_45 : decode prog_13_method_29_code 45 = .ok (.ireturn, 1) := by decide +kernel
theorem d_Mo_partFrom_0 : decode prog_13_method_30_code 0 = .ok (.iload_n 0, 1) := by decide +kernel
theorem d_Mo_partFrom_1 : decode prog_13_method_30_code 1 = .ok (.ifCond .ne 7, 3) := by decide +kernel
theorem d_Mo_partFrom_4 : decode prog_13_method_30_code 4 = .ok (.iload_n 2, 1) := by decide +kernel
theorem d_Mo_partFrom_5 : decode prog_13_method_30_code 5 = .ok (.goto 8, 3) := by decide +kernel
theorem d_Mo_partFrom_8 : decode prog_13_method_30_code 8 = .ok (.iload_n 0, 1) := by decide +kernel
theorem d_Mo_partFrom_9 : decode prog_13_method_30_code 9 = .ok (.iload_n 3, 1) := by decide +kernel
theorem d_Mo_partFrom_10 : decode prog_13_method_30_code 10 = .ok (.iload_n 1, 1) := by decide +kernel
theorem d_Mo_partFrom_11 : decode prog_13_method_30_code 11 = .ok (.ishr, 1) := by decide +kernel
theorem d_Mo_partFrom_12 : decode prog_13_method_30_code 12 = .ok (.imul, 1) := by decide +kernel
theorem d_Mo_partFrom_13 : decode prog_13_method_30_code 13 = .ok (.ireturn, 1) := by decide +kernel
theorem d_Mo_restCost_0 : decode prog_13_method_31_code 0 = .ok (.ldc2_w 273, 3) := by decide +kernel
theorem d_Mo_restCost_3 : decode prog_13_method_31_code 3 = .ok (.lstore 4, 2) := by decide +kernel
theorem d_Mo_restCost_5 : decode prog_13_method_31_code 5 = .ok (.iconst 0, 1) := by decide +kernel
theorem d_Mo_restCost_6 : decode prog_13_method_31_code 6 = .ok (.istore 6, 2) := by decide +kernel
theorem d_Mo_restCost_8 : decode prog_13_method_31_code 8 = .ok (.iload 6, 2) := by decide +kernel
theorem d_Mo_restCost_10 : decode prog_13_method_31_code 10 = .ok (.iconst 1, 1) := by decide +kernel
theorem d_Mo_restCost_11 : decode prog_13_method_31_code 11 = .ok (.iload_n 2, 1) := by decide +kernel
theorem d_Mo_restCost_12 : decode prog_13_method_31_code 12 = .ok (.ishl, 1) := by decide +kernel
theorem d_Mo_restCost_13 : decode prog_13_method_31_code 13 = .ok (.if_icmp .ge 50, 3) := by decide +kernel
theorem d_Mo_restCost_16 : decode prog_13_method_31_code 16 = .ok (.iload 6, 2) := by decide +kernel
theorem d_Mo_restCost_18 : decode prog_13_method_31_code 18 = .ok (.iload_n 2, 1) := by decide +kernel
theorem d_Mo_restCost_19 : decode prog_13_method_31_code 19 = .ok (.iload_n 1, 1) := by decide +kernel
theorem d_Mo_restCost_20 : decode prog_13_method_31_code 20 = .ok (.iload_n 3, 1) := by decide +kernel
theorem d_Mo_restCost_21 : decode prog_13_method_31_code 21 = .ok (.invokestatic 275, 3) := by decide +kernel
theorem d_Mo_restCost_24 : decode prog_13_method_31_code 24 = .ok (.istore 7, 2) := by decide +kernel
theorem d_Mo_restCost_26 : decode prog_13_method_31_code 26 = .ok (.iload 6, 2) := by decide +kernel
theorem d_Mo_restCost_28 : decode prog_13_method_31_code 28 = .ok (.iconst 1, 1) := by decide +kernel
theorem d_Mo_restCost_29 : decode prog_13_method_31_code 29 = .ok (.iadd, 1) := by decide +kernel
theorem d_Mo_restCost_30 : decode prog_13_method_31_code 30 = .ok (.iload_n 3, 1) := by decide +kernel
theorem d_Mo_restCost_31 : decode prog_13_method_31_code 31 = .ok (.iload_n 2, 1) := by decide +kernel
theorem d_Mo_restCost_32 : decode prog_13_method_31_code 32 = .ok (.ishr, 1) := by decide +kernel
theorem d_Mo_restCost_33 : decode prog_13_method_31_code 33 = .ok (.imul, 1) := by decide +kernel
theorem d_Mo_restCost_34 : decode prog_13_method_31_code 34 = .ok (.istore 8, 2) := by decide +kernel
theorem d_Mo_restCost_36 : decode prog_13_method_31_code 36 = .ok (.lload 4, 2) := by decide +kernel
theorem d_Mo_restCost_38 : decode prog_13_method_31_code 38 = .ok (.aload_n 0, 1) := by decide +kernel
theorem d_Mo_restCost_39 : decode prog_13_method_31_code 39 = .ok (.iload 7, 2) := by decide +kernel
theorem d_Mo_restCost_41 : decode prog_13_method_31_code 41 = .ok (.iload 8, 2) := by decide +kernel
theorem d_Mo_restCost_43 : decode prog_13_method_31_code 43 = .ok (.aload_n 0, 1) := by decide +kernel
theorem d_Mo_restCost_44 : decode prog_13_method_31_code 44 = .ok (.iload 7, 2) := by decide +kernel
theorem d_Mo_restCost_46 : decode prog_13_method_31_code 46 = .ok (.iload 8, 2) := by decide +kernel
theorem d_Mo_restCost_48 : decode prog_13_method_31_code 48 = .ok (.invokevirtual 278, 3) := by decide +kernel
theorem d_Mo_restCost_51 : decode prog_13_method_31_code 51 = .ok (.invokevirtual 269, 3) := by decide +kernel
theorem d_Mo_restCost_54 : decode prog_13_method_31_code 54 = .ok (.ladd, 1) := by decide +kernel
theorem d_Mo_restCost_55 : decode prog_13_method_31_code 55 = .ok (.lstore 4, 2) := by decide +kernel
theorem d_Mo_restCost_57 : decode prog_13_method_31_code 57 = .ok (.iinc 6 1, 3) := by decide +kernel
theorem d_Mo_restCost_60 : decode prog_13_method_31_code 60 = .ok (.goto (-52), 3) := by decide +kernel
theorem d_Mo_restCost_63 : decode prog_13_method_31_code 63 = .ok (.lload 4, 2) := by decide +kernel
theorem d_Mo_restCost_65 : decode prog_13_method_31_code 65 = .ok (.lreturn, 1) := by decide +kernel
theorem d_Mo_fits_0 : decode prog_13_method_32_code 0 = .ok (.iload_n 2, 1) := by decide +kernel
theorem d_Mo_fits_1 : decode prog_13_method_32_code 1 = .ok (.iconst 1, 1) := by decide +kernel
theorem d_Mo_fits_2 : decode prog_13_method_32_code 2 = .ok (.iload_n 1, 1) := by decide +kernel
theorem d_Mo_fits_3 : decode prog_13_method_32_code 3 = .ok (.ishl, 1) := by decide +kernel
theorem d_Mo_fits_4 : decode prog_13_method_32_code 4 = .ok (.irem, 1) := by decide +kernel
theorem d_Mo_fits_5 : decode prog_13_method_32_code 5 = .ok (.ifCond .ne 14, 3) := by decide +kernel
theorem d_Mo_fits_8 : decode prog_13_method_32_code 8 = .ok (.iload_n 2, 1) := by decide +kernel
theorem d_Mo_fits_9 : decode prog_13_method_32_code 9 = .ok (.iload_n 1, 1) := by decide +kernel
theorem d_Mo_fits_10 : decode prog_13_method_32_code 10 = .ok (.ishr, 1) := by decide +kernel
theorem d_Mo_fits_11 : decode prog_13_method_32_code 11 = .ok (.iload_n 0, 1) := by decide +kernel
theorem d_Mo_fits_12 : decode prog_13_method_32_code 12 = .ok (.if_icmp .le 7, 3) := by decide +kernel
theorem d_Mo_fits_15 : decode prog_13_method_32_code 15 = .ok (.iconst 1, 1) := by decide +kernel
theorem d_Mo_fits_16 : decode prog_13_method_32_code 16 = .ok (.goto 4, 3) := by decide +kernel
theorem d_Mo_fits_19 : decode prog_13_method_32_code 19 = .ok (.iconst 0, 1) := by decide +kernel
theorem d_Mo_fits_20 : decode prog_13_method_32_code 20 = .ok (.ireturn, 1) := by decide +kernel
theorem d_Mo_bestQ_0 : decode prog_13_method_33_code 0 = .ok (.iconst 0, 1) := by decide +kernel
theorem d_Mo_bestQ_1 : decode prog_13_method_33_code 1 = .ok (.istore_n 3, 1) := by decide +kernel
theorem d_Mo_bestQ_2 : decode prog_13_method_33_code 2 = .ok (.iconst 1, 1) := by decide +kernel
theorem d_Mo_bestQ_3 : decode prog_13_method_33_code 3 = .ok (.istore 4, 2) := by decide +kernel
theorem d_Mo_bestQ_5 : decode prog_13_method_33_code 5 = .ok (.iload 4, 2) := by decide +kernel
theorem d_Mo_bestQ_7 : decode prog_13_method_33_code 7 = .ok (.bipush 6, 2) := by decide +kernel
theorem d_Mo_bestQ_9 : decode prog_13_method_33_code 9 = .ok (.if_icmp .ge 41, 3) := by decide +kernel
theorem d_Mo_bestQ_12 : decode prog_13_method_33_code 12 = .ok (.iload_n 1, 1) := by decide +kernel
theorem d_Mo_bestQ_13 : decode prog_13_method_33_code 13 = .ok (.iload 4, 2) := by decide +kernel
theorem d_Mo_bestQ_15 : decode prog_13_method_33_code 15 = .ok (.iload_n 2, 1) := by decide +kernel
theorem d_Mo_bestQ_16 : decode prog_13_method_33_code 16 = .ok (.invokestatic 281, 3) := by decide +kernel
theorem d_Mo_bestQ_19 : decode prog_13_method_33_code 19 = .ok (.ifCond .eq 25, 3) := by decide +kernel
theorem d_Mo_bestQ_22 : decode prog_13_method_33_code 22 = .ok (.aload_n 0, 1) := by decide +kernel
theorem d_Mo_bestQ_23 : decode prog_13_method_33_code 23 = .ok (.iload_n 1, 1) := by decide +kernel
theorem d_Mo_bestQ_24 : decode prog_13_method_33_code 24 = .ok (.iload 4, 2) := by decide +kernel
theorem d_Mo_bestQ_26 : decode prog_13_method_33_code 26 = .ok (.iload_n 2, 1) := by decide +kernel
theorem d_Mo_bestQ_27 : decode prog_13_method_33_code 27 = .ok (.invokevirtual 285, 3) := by decide +kernel
theorem d_Mo_bestQ_30 : decode prog_13_method_33_code 30 = .ok (.aload_n 0, 1) := by decide +kernel
theorem d_Mo_bestQ_31 : decode prog_13_method_33_code 31 = .ok (.iload_n 1, 1) := by decide +kernel
theorem d_Mo_bestQ_32 : decode prog_13_method_33_code 32 = .ok (.iload_n 3, 1) := by decide +kernel
theorem d_Mo_bestQ_33 : decode prog_13_method_33_code 33 = .ok (.iload_n 2, 1) := by decide +kernel
theorem d_Mo_bestQ_34 : decode prog_13_method_33_code 34 = .ok (.invokevirtual 285, 3) := by decide +kernel
theorem d_Mo_bestQ_37 : decode prog_13_method_33_code 37 = .ok (.lcmp, 1) := by decide +kernel
theorem d_Mo_bestQ_38 : decode prog_13_method_33_code 38 = .ok (.ifCond .ge 6, 3) := by decide +kernel
theorem d_Mo_bestQ_41 : decode prog_13_method_33_code 41 = .ok (.iload 4, 2) := by decide +kernel
theorem d_Mo_bestQ_43 : decode prog_13_method_33_code 43 = .ok (.istore_n 3, 1) := by decide +kernel
theorem d_Mo_bestQ_44 : decode prog_13_method_33_code 44 = .ok (.iinc 4 1, 3) := by decide +kernel
theorem d_Mo_bestQ_47 : decode prog_13_method_33_code 47 = .ok (.goto (-42), 3) := by decide +kernel
theorem d_Mo_bestQ_50 : decode prog_13_method_33_code 50 = .ok (.iload_n 3, 1) := by decide +kernel
theorem d_Mo_bestQ_51 : decode prog_13_method_33_code 51 = .ok (.ireturn, 1) := by decide +kernel
theorem d_Mo_isOne_0 : decode prog_13_method_34_code 0 = .ok (.iconst 1, 1) := by decide +kernel
theorem d_Mo_isOne_1 : decode prog_13_method_34_code 1 = .ok (.istore_n 2, 1) := by decide +kernel
theorem d_Mo_isOne_2 : decode prog_13_method_34_code 2 = .ok (.iconst 1, 1) := by decide +kernel
theorem d_Mo_isOne_3 : decode prog_13_method_34_code 3 = .ok (.istore_n 3, 1) := by decide +kernel
theorem d_Mo_isOne_4 : decode prog_13_method_34_code 4 = .ok (.iload_n 3, 1) := by decide +kernel
theorem d_Mo_isOne_5 : decode prog_13_method_34_code 5 = .ok (.iload_n 1, 1) := by decide +kernel
theorem d_Mo_isOne_6 : decode prog_13_method_34_code 6 = .ok (.if_icmp .ge 34, 3) := by decide +kernel
theorem d_Mo_isOne_9 : decode prog_13_method_34_code 9 = .ok (.iload_n 2, 1) := by decide +kernel
theorem d_Mo_isOne_10 : decode prog_13_method_34_code 10 = .ok (.ifCond .eq 22, 3) := by decide +kernel
theorem d_Mo_isOne_13 : decode prog_13_method_34_code 13 = .ok (.aload_n 0, 1) := by decide +kernel
theorem d_Mo_isOne_14 : decode prog_13_method_34_code 14 = .ok (.getfield 176, 3) := by decide +kernel
theorem d_Mo_isOne_17 : decode prog_13_method_34_code 17 = .ok (.iload_n 3, 1) := by decide +kernel
theorem d_Mo_isOne_18 : decode prog_13_method_34_code 18 = .ok (.iaload, 1) := by decide +kernel
theorem d_Mo_isOne_19 : decode prog_13_method_34_code 19 = .ok (.aload_n 0, 1) := by decide +kernel
theorem d_Mo_isOne_20 : decode prog_13_method_34_code 20 = .ok (.getfield 176, 3) := by decide +kernel
theorem d_Mo_isOne_23 : decode prog_13_method_34_code 23 = .ok (.iconst 0, 1) := by decide +kernel
theorem d_Mo_isOne_24 : decode prog_13_method_34_code 24 = .ok (.iaload, 1) := by decide +kernel
theorem d_Mo_isOne_25 : decode prog_13_method_34_code 25 = .ok (.if_icmp .ne 7, 3) := by decide +kernel
theorem d_Mo_isOne_28 : decode prog_13_method_34_code 28 = .ok (.iconst 1, 1) := by decide +kernel
theorem d_Mo_isOne_29 : decode prog_13_method_34_code 29 = .ok (.goto 4, 3) := by decide +kernel
theorem d_Mo_isOne_32 : decode prog_13_method_34_code 32 = .ok (.iconst 0, 1) := by decide +kernel
theorem d_Mo_isOne_33 : decode prog_13_method_34_code 33 = .ok (.istore_n 2, 1) := by decide +kernel
theorem d_Mo_isOne_34 : decode prog_13_method_34_code 34 = .ok (.iinc 3 1, 3) := by decide +kernel
theorem d_Mo_isOne_37 : decode prog_13_method_34_code 37 = .ok (.goto (-33), 3) := by decide +kernel
theorem d_Mo_isOne_40 : decode prog_13_method_34_code 40 = .ok (.iload_n 2, 1) := by decide +kernel
theorem d_Mo_isOne_41 : decode prog_13_method_34_code 41 = .ok (.ireturn, 1) := by decide +kernel
theorem d_Mo_choose_0 : decode prog_13_method_35_code 0 = .ok (.aload_n 0, 1) := by decide +kernel
theorem d_Mo_choose_1 : decode prog_13_method_35_code 1 = .ok (.aload_n 0, 1) := by decide +kernel
theorem d_Mo_choose_2 : decode prog_13_method_35_code 2 = .ok (.iload_n 1, 1) := by decide +kernel
theorem d_Mo_choose_3 : decode prog_13_method_35_code 3 = .ok (.invokevirtual 288, 3) := by decide +kernel
theorem d_Mo_choose_6 : decode prog_13_method_35_code 6 = .ok (.putfield 253, 3) := by decide +kernel
theorem d_Mo_choose_9 : decode prog_13_method_35_code 9 = .ok (.aload_n 0, 1) := by decide +kernel
theorem d_Mo_choose_10 : decode prog_13_method_35_code 10 = .ok (.iconst 1, 1) := by decide +kernel
theorem d_Mo_choose_11 : decode prog_13_method_35_code 11 = .ok (.putfield 291, 3) := by decide +kernel
theorem d_Mo_choose_14 : decode prog_13_method_35_code 14 = .ok (.ldc2_w 222, 3) := by decide +kernel
theorem d_Mo_choose_17 : decode prog_13_method_35_code 17 = .ok (.aload_n 0, 1) := by decide +kernel
theorem d_Mo_choose_18 : decode prog_13_method_35_code 18 = .ok (.getfield 253, 3) := by decide +kernel
theorem d_Mo_choose_21 : decode prog_13_method_35_code 21 = .ok (.i2l, 1) := by decide +kernel
theorem d_Mo_choose_22 : decode prog_13_method_35_code 22 = .ok (.ladd, 1) := by decide +kernel
theorem d_Mo_choose_23 : decode prog_13_method_35_code 23 = .ok (.iload_n 1, 1) := by decide +kernel
theorem d_Mo_choose_24 : decode prog_13_method_35_code 24 = .ok (.i2l, 1) := by decide +kernel
theorem d_Mo_choose_25 : decode prog_13_method_35_code 25 = .ok (.iload_n 2, 1) := by decide +kernel
theorem d_Mo_choose_26 : decode prog_13_method_35_code 26 = .ok (.aload_n 0, 1) := by decide +kernel
theorem d_Mo_choose_27 : decode prog_13_method_35_code 27 = .ok (.getfield 253, 3) := by decide +kernel
theorem d_Mo_choose_30 : decode prog_13_method_35_code 30 = .ok (.isub, 1) := by decide +kernel
theorem d_Mo_choose_31 : decode prog_13_method_35_code 31 = .ok (.i2l, 1) := by decide +kernel
theorem d_Mo_choose_32 : decode prog_13_method_35_code 32 = .ok (.lmul, 1) := by decide +kernel
theorem d_Mo_choose_33 : decode prog_13_method_35_code 33 = .ok (.ladd, 1) := by decide +kernel
theorem d_Mo_choose_34 : decode prog_13_method_35_code 34 = .ok (.lstore_n 3, 1) := by decide +kernel
theorem d_Mo_choose_35 : decode prog_13_method_35_code 35 = .ok (.aload_n 0, 1) := by decide +kernel
theorem d_Mo_choose_36 : decode prog_13_method_35_code 36 = .ok (.iload_n 1, 1) := by decide +kernel
theorem d_Mo_choose_37 : decode prog_13_method_35_code 37 = .ok (.invokevirtual 294, 3) := by decide +kernel
theorem d_Mo_choose_40 : decode prog_13_method_35_code 40 = .ok (.ifCond .eq 26, 3) := by decide +kernel
theorem d_Mo_choose_43 : decode prog_13_method_35_code 43 = .ok (.ldc2_w 222, 3) := by decide +kernel
theorem d_Mo_choose_46 : decode prog_13_method_35_code 46 = .ok (.iload_n 2, 1) := by decide +kernel
theorem d_Mo_choose_47 : decode prog_13_method_35_code 47 = .ok (.i2l, 1) := by decide +kernel
theorem d_Mo_choose_48 : decode prog_13_method_35_code 48 = .ok (.ladd, 1) := by decide +kernel
theorem d_Mo_choose_49 : decode prog_13_method_35_code 49 = .ok (.lload_n 3, 1) := by decide +kernel
theorem d_Mo_choose_50 : decode prog_13_method_35_code 50 = .ok (.lcmp, 1) := by decide +kernel
theorem d_Mo_choose_51 : decode prog_13_method_35_code 51 = .ok (.ifCond .gt 15, 3) := by decide +kernel
theorem d_Mo_choose_54 : decode prog_13_method_35_code 54 = .ok (.ldc2_w 222, 3) := by decide +kernel
theorem d_Mo_choose_57 : decode prog_13_method_35_code 57 = .ok (.iload_n 2, 1) := by decide +kernel
theorem d_Mo_choose_58 : decode prog_13_method_35_code 58 = .ok (.i2l, 1) := by decide +kernel
theorem d_Mo_choose_59 : decode prog_13_method_35_code 59 = .ok (.ladd, 1) := by decide +kernel
theorem d_Mo_choose_60 : decode prog_13_method_35_code 60 = .ok (.lstore_n 3, 1) := by decide +kernel
theorem d_Mo_choose_61 : decode prog_13_method_35_code 61 = .ok (.aload_n 0, 1) := by decide +kernel
theorem d_Mo_choose_62 : decode prog_13_method_35_code 62 = .ok (.iconst 0, 1) := by decide +kernel
theorem d_Mo_choose_63 : decode prog_13_method_35_code 63 = .ok (.putfield 291, 3) := by decide +kernel
theorem d_Mo_choose_66 : decode prog_13_method_35_code 66 = .ok (.iconst 0, 1) := by decide +kernel
theorem d_Mo_choose_67 : decode prog_13_method_35_code 67 = .ok (.istore 5, 2) := by decide +kernel
theorem d_Mo_choose_69 : decode prog_13_method_35_code 69 = .ok (.iload 5, 2) := by decide +kernel
theorem d_Mo_choose_71 : decode prog_13_method_35_code 71 = .ok (.iconst 5, 1) := by decide +kernel
theorem d_Mo_choose_72 : decode prog_13_method_35_code 72 = .ok (.if_icmp .ge 89, 3) := by decide +kernel
theorem d_Mo_choose_75 : decode prog_13_method_35_code 75 = .ok (.iload 5, 2) := by decide +kernel
theorem d_Mo_choose_77 : decode prog_13_method_35_code 77 = .ok (.iload_n 1, 1) := by decide +kernel
theorem d_Mo_choose_78 : decode prog_13_method_35_code 78 = .ok (.if_icmp .ge 83, 3) := by decide +kernel
theorem d_Mo_choose_81 : decode prog_13_method_35_code 81 = .ok (.aload_n 0, 1) := by decide +kernel
theorem d_Mo_choose_82 : decode prog_13_method_35_code 82 = .ok (.iload 5, 2) := by decide +kernel
theorem d_Mo_choose_84 : decode prog_13_method_35_code 84 = .ok (.iload_n 1, 1) := by decide +kernel
theorem d_Mo_choose_85 : decode prog_13_method_35_code 85 = .ok (.invokevirtual 297, 3) := by decide +kernel
theorem d_Mo_choose_88 : decode prog_13_method_35_code 88 = .ok (.aload_n 0, 1) := by decide +kernel
theorem d_Mo_choose_89 : decode prog_13_method_35_code 89 = .ok (.iload 5, 2) := by decide +kernel
theorem d_Mo_choose_91 : decode prog_13_method_35_code 91 = .ok (.iload_n 1, 1) := by decide +kernel
theorem d_Mo_choose_92 : decode prog_13_method_35_code 92 = .ok (.invokevirtual 300, 3) := by decide +kernel
theorem d_Mo_choose_95 : decode prog_13_method_35_code 95 = .ok (.istore 6, 2) := by decide +kernel
theorem d_Mo_choose_97 : decode prog_13_method_35_code 97 = .ok (.ldc2_w 222, 3) := by decide +kernel
theorem d_Mo_choose_100 : decode prog_13_method_35_code 100 = .ok (.aload_n 0, 1) := by decide +kernel
theorem d_Mo_choose_101 : decode prog_13_method_35_code 101 = .ok (.getfield 253, 3) := by decide +kernel
theorem d_Mo_choose_104 : decode prog_13_method_35_code 104 = .ok (.i2l, 1) := by decide +kernel
theorem d_Mo_choose_105 : decode prog_13_method_35_code 105 = .ok (.ladd, 1) := by decide +kernel
theorem d_Mo_choose_106 : decode prog_13_method_35_code 106 = .ok (.iload 5, 2) := by decide +kernel
theorem d_Mo_choose_108 : decode prog_13_method_35_code 108 = .ok (.i2l, 1) := by decide +kernel
theorem d_Mo_choose_109 : decode prog_13_method_35_code 109 = .ok (.iload_n 2, 1) := by decide +kernel
theorem d_Mo_choose_110 : decode prog_13_method_35_code 110 = .ok (.aload_n 0, 1) := by decide +kernel
theorem d_Mo_choose_111 : decode prog_13_method_35_code 111 = .ok (.getfield 253, 3) := by decide +kernel
theorem d_Mo_choose_114 : decode prog_13_method_35_code 114 = .ok (.isub, 1) := by decide +kernel
theorem d_Mo_choose_115 : decode prog_13_method_35_code 115 = .ok (.i2l, 1) := by decide +kernel
theorem d_Mo_choose_116 : decode prog_13_method_35_code 116 = .ok (.lmul, 1) := by decide +kernel
theorem d_Mo_choose_117 : decode prog_13_method_35_code 117 = .ok (.ladd, 1) := by decide +kernel
theorem d_Mo_choose_118 : decode prog_13_method_35_code 118 = .ok (.aload_n 0, 1) := by decide +kernel
theorem d_Mo_choose_119 : decode prog_13_method_35_code 119 = .ok (.iload 5, 2) := by decide +kernel
theorem d_Mo_choose_121 : decode prog_13_method_35_code 121 = .ok (.iload 6, 2) := by decide +kernel
theorem d_Mo_choose_123 : decode prog_13_method_35_code 123 = .ok (.iload_n 1, 1) := by decide +kernel
theorem d_Mo_choose_124 : decode prog_13_method_35_code 124 = .ok (.invokevirtual 285, 3) := by decide +kernel
theorem d_Mo_choose_127 : decode prog_13_method_35_code 127 = .ok (.ladd, 1) := by decide +kernel
theorem d_Mo_choose_128 : decode prog_13_method_35_code 128 = .ok (.lstore 7, 2) := by decide +kernel
theorem d_Mo_choose_130 : decode prog_13_method_35_code 130 = .ok (.lload 7, 2) := by decide +kernel
theorem d_Mo_choose_132 : decode prog_13_method_35_code 132 = .ok (.lload_n 3, 1) := by decide +kernel
theorem d_Mo_choose_133 : decode prog_13_method_35_code 133 = .ok (.lcmp, 1) := by decide +kernel
theorem d_Mo_choose_134 : decode prog_13_method_35_code 134 = .ok (.ifCond .ge 21, 3) := by decide +kernel
theorem d_Mo_choose_137 : decode prog_13_method_35_code 137 = .ok (.lload 7, 2) := by decide +kernel
theorem d_Mo_choose_139 : decode prog_13_method_35_code 139 = .ok (.lstore_n 3, 1) := by decide +kernel
theorem d_Mo_choose_140 : decode prog_13_method_35_code 140 = .ok (.aload_n 0, 1) := by decide +kernel
theorem d_Mo_choose_141 : decode prog_13_method_35_code 141 = .ok (.bipush 8, 2) := by decide +kernel
theorem d_Mo_choose_143 : decode prog_13_method_35_code 143 = .ok (.iload 5, 2) := by decide +kernel
theorem d_Mo_choose_145 : decode prog_13_method_35_code 145 = .ok (.iadd, 1) := by decide +kernel
theorem d_Mo_choose_146 : decode prog_13_method_35_code 146 = .ok (.putfield 291, 3) := by decide +kernel
theorem d_Mo_choose_149 : decode prog_13_method_35_code 149 = .ok (.aload_n 0, 1) := by decide +kernel
theorem d_Mo_choose_150 : decode prog_13_method_35_code 150 = .ok (.iload 6, 2) := by decide +kernel
theorem d_Mo_choose_152 : decode prog_13_method_35_code 152 = .ok (.putfield 303, 3) := by decide +kernel
theorem d_Mo_choose_155 : decode prog_13_method_35_code 155 = .ok (.iinc 5 1, 3) := by decide +kernel
theorem d_Mo_choose_158 : decode prog_13_method_35_code 158 = .ok (.goto (-89), 3) := by decide +kernel
theorem d_Mo_choose_161 : decode prog_13_method_35_code 161 = .ok (.lload_n 3, 1) := by decide +kernel
theorem d_Mo_choose_162 : decode prog_13_method_35_code 162 = .ok (.lreturn, 1) := by decide +kernel
theorem d_Mo_writeSubframe_0 : decode prog_13_method_36_code 0 = .ok (.aload_n 0, 1) := by decide +kernel
theorem d_Mo_writeSubframe_1 : decode prog_13_method_36_code 1 = .ok (.aload_n 0, 1) := by decide +kernel
theorem d_Mo_writeSubframe_2 : decode prog_13_method_36_code 2 = .ok (.getfield 291, 3) := by decide +kernel
theorem d_Mo_writeSubframe_5 : decode prog_13_method_36_code 5 = .ok (.i2l, 1) := by decide +kernel
theorem d_Mo_writeSubframe_6 : decode prog_13_method_36_code 6 = .ok (.iconst 1, 1) := by decide +kernel
theorem d_Mo_writeSubframe_7 : decode prog_13_method_36_code 7 = .ok (.lshl, 1) := by decide +kernel
theorem d_Mo_writeSubframe_8 : decode prog_13_method_36_code 8 = .ok (.aload_n 0, 1) := by decide +kernel
theorem d_Mo_writeSubframe_9 : decode prog_13_method_36_code 9 = .ok (.getfield 253, 3) := by decide +kernel
theorem d_Mo_writeSubframe_12 : decode prog_13_method_36_code 12 = .ok (.ifCond .le 7, 3) := by decide +kernel
theorem d_Mo_writeSubframe_15 : decode prog_13_method_36_code 15 = .ok (.lconst 1, 1) := by decide +kernel
theorem d_Mo_writeSubframe_16 : decode prog_13_method_36_code 16 = .ok (.goto 4, 3) := by decide +kernel
theorem d_Mo_writeSubframe_19 : decode prog_13_method_36_code 19 = .ok (.lconst 0, 1) := by decide +kernel
theorem d_Mo_writeSubframe_20 : decode prog_13_method_36_code 20 = .ok (.lor, 1) := by decide +kernel
theorem d_Mo_writeSubframe_21 : decode prog_13_method_36_code 21 = .ok (.bipush 8, 2) := by decide +kernel
theorem d_Mo_writeSubframe_23 : decode prog_13_method_36_code 23 = .ok (.invokevirtual 306, 3) := by decide +kernel
theorem d_Mo_writeSubframe_26 : decode prog_13_method_36_code 26 = .ok (.aload_n 0, 1) := by decide +kernel
theorem d_Mo_writeSubframe_27 : decode prog_13_method_36_code 27 = .ok (.getfield 253, 3) := by decide +kernel
theorem d_Mo_writeSubframe_30 : decode prog_13_method_36_code 30 = .ok (.ifCond .le 12, 3) := by decide +kernel
theorem d_Mo_writeSubframe_33 : decode prog_13_method_36_code 33 = .ok (.aload_n 0, 1) := by decide +kernel
theorem d_Mo_writeSubframe_34 : decode prog_13_method_36_code 34 = .ok (.lconst 1, 1) := by decide +kernel
theorem d_Mo_writeSubframe_35 : decode prog_13_method_36_code 35 = .ok (.aload_n 0, 1) := by decide +kernel
theorem d_Mo_writeSubframe_36 : decode prog_13_method_36_code 36 = .ok (.getfield 253, 3) := by decide +kernel
theorem d_Mo_writeSubframe_39 : decode prog_13_method_36_code 39 = .ok (.invokevirtual 306, 3) := by decide +kernel
theorem d_Mo_writeSubframe_42 : decode prog_13_method_36_code 42 = .ok (.iload_n 2, 1) := by decide +kernel
theorem d_Mo_writeSubframe_43 : decode prog_13_method_36_code 43 = .ok (.aload_n 0, 1) := by decide +kernel
theorem d_Mo_writeSubframe_44 : decode prog_13_method_36_code 44 = .ok (.getfield 253, 3) := by decide +kernel
theorem d_Mo_writeSubframe_47 : decode prog_13_method_36_code 47 = .ok (.isub, 1) := by decide +kernel
theorem d_Mo_writeSubframe_48 : decode prog_13_method_36_code 48 = .ok (.istore_n 3, 1) := by decide +kernel
theorem d_Mo_writeSubframe_49 : decode prog_13_method_36_code 49 = .ok (.aload_n 0, 1) := by decide +kernel
theorem d_Mo_writeSubframe_50 : decode prog_13_method_36_code 50 = .ok (.getfield 291, 3) := by decide +kernel
theorem d_Mo_writeSubframe_53 : decode prog_13_method_36_code 53 = .ok (.ifCond .ne 7, 3) := by decide +kernel
theorem d_Mo_writeSubframe_56 : decode prog_13_method_36_code 56 = .ok (.iconst 1, 1) := by decide +kernel
theorem d_Mo_writeSubframe_57 : decode prog_13_method_36_code 57 = .ok (.goto 22, 3) := by decide +kernel
theorem d_Mo_writeSubframe_60 : decode prog_13_method_36_code 60 = .ok (.aload_n 0, 1) := by decide +kernel
theorem d_Mo_writeSubframe_61 : decode prog_13_method_36_code 61 = .ok (.getfield 291, 3) := by decide +kernel
theorem d_Mo_writeSubframe_64 : decode prog_13_method_36_code 64 = .ok (.iconst 1, 1) := by decide +kernel
theorem d_Mo_writeSubframe_65 : decode prog_13_method_36_code 65 = .ok (.if_icmp .ne 7, 3) := by decide +kernel
theorem d_Mo_writeSubframe_68 : decode prog_13_method_36_code 68 = .ok (.iload_n 1, 1) := by decide +kernel
theorem d_Mo_writeSubframe_69 : decode prog_13_method_36_code 69 = .ok (.goto 10, 3) := by decide +kernel
theorem d_Mo_writeSubframe_72 : decode prog_13_method_36_code 72 = .ok (.aload_n 0, 1) := by decide +kernel
theorem d_Mo_writeSubframe_73 : decode prog_13_method_36_code 73 = .ok (.getfield 291, 3) := by decide +kernel
theorem d_Mo_writeSubframe_76 : decode prog_13_method_36_code 76 = .ok (.bipush 8, 2) := by decide +kernel
theorem d_Mo_writeSubframe_78 : decode prog_13_method_36_code 78 = .ok (.isub, 1) := by decide +kernel
theorem d_Mo_writeSubframe_79 : decode prog_13_method_36_code 79 = .ok (.istore 4, 2) := by decide +kernel
theorem d_Mo_writeSubframe_81 : decode prog_13_method_36_code 81 = .ok (.iconst 0, 1) := by decide +kernel
theorem d_Mo_writeSubframe_82 : decode prog_13_method_36_code 82 = .ok (.istore 5, 2) := by decide +kernel
theorem d_Mo_writeSubframe_84 : decode prog_13_method_36_code 84 = .ok (.iload 5, 2) := by decide +kernel
theorem d_Mo_writeSubframe_86 : decode prog_13_method_36_code 86 = .ok (.iload 4, 2) := by decide +kernel
theorem d_Mo_writeSubframe_88 : decode prog_13_method_36_code 88 = .ok (.if_icmp .ge 21, 3) := by decide +kernel
theorem d_Mo_writeSubframe_91 : decode prog_13_method_36_code 91 = .ok (.aload_n 0, 1) := by decide +kernel
theorem d_Mo_writeSubframe_92 : decode prog_13_method_36_code 92 = .ok (.aload_n 0, 1) := by decide +kernel
theorem d_Mo_writeSubframe_93 : decode prog_13_method_36_code 93 = .ok (.iload 5, 2) := by decide +kernel
theorem d_Mo_writeSubframe_95 : decode prog_13_method_36_code 95 = .ok (.invokevirtual 256, 3) := by decide +kernel
theorem d_Mo_writeSubframe_98 : decode prog_13_method_36_code 98 = .ok (.i2l, 1) := by decide +kernel
theorem d_Mo_writeSubframe_99 : decode prog_13_method_36_code 99 = .ok (.iload_n 3, 1) := by decide +kernel
theorem d_Mo_writeSubframe_100 : decode prog_13_method_36_code 100 = .ok (.invokevirtual 306, 3) := by decide +kernel
theorem d_Mo_writeSubframe_103 : decode prog_13_method_36_code 103 = .ok (.iinc 5 1, 3) := by decide +kernel
theorem d_Mo_writeSubframe_106 : decode prog_13_method_36_code 106 = .ok (.goto (-22), 3) := by decide +kernel
theorem d_Mo_writeSubframe_109 : decode prog_13_method_36_code 109 = .ok (.aload_n 0, 1) := by decide +kernel
theorem d_Mo_writeSubframe_110 : decode prog_13_method_36_code 110 = .ok (.getfield 291, 3) := by decide +kernel
theorem d_Mo_writeSubframe_113 : decode prog_13_method_36_code 113 = .ok (.bipush 8, 2) := by decide +kernel
theorem d_Mo_writeSubframe_115 : decode prog_13_method_36_code 115 = .ok (.if_icmp .ge 4, 3) := by decide +kernel
theorem d_Mo_writeSubframe_118 : decode prog_13_method_36_code 118 = .ok (.return_, 1) := by decide +kernel
theorem d_Mo_writeSubframe_119 : decode prog_13_method_36_code 119 = .ok (.aload_n 0, 1) := by decide +kernel
theorem d_Mo_writeSubframe_120 : decode prog_13_method_36_code 120 = .ok (.aload_n 0, 1) := by decide +kernel
theorem d_Mo_writeSubframe_121 : decode prog_13_method_36_code 121 = .ok (.getfield 291, 3) := by decide +kernel
theorem d_Mo_writeSubframe_124 : decode prog_13_method_36_code 124 = .ok (.bipush 8, 2) := by decide +kernel
theorem d_Mo_writeSubframe_126 : decode prog_13_method_36_code 126 = .ok (.isub, 1) := by decide +kernel
theorem d_Mo_writeSubframe_127 : decode prog_13_method_36_code 127 = .ok (.iload_n 1, 1) := by decide +kernel
theorem d_Mo_writeSubframe_128 : decode prog_13_method_36_code 128 = .ok (.invokevirtual 297, 3) := by decide +kernel
theorem d_Mo_writeSubframe_131 : decode prog_13_method_36_code 131 = .ok (.aload_n 0, 1) := by decide +kernel
theorem d_Mo_writeSubframe_132 : decode prog_13_method_36_code 132 = .ok (.lconst 0, 1) := by decide +kernel
theorem d_Mo_writeSubframe_133 : decode prog_13_method_36_code 133 = .ok (.iconst 2, 1) := by decide +kernel
theorem d_Mo_writeSubframe_134 : decode prog_13_method_36_code 134 = .ok (.invokevirtual 306, 3) := by decide +kernel
theorem d_Mo_writeSubframe_137 : decode prog_13_method_36_code 137 = .ok (.aload_n 0, 1) := by decide +kernel
theorem d_Mo_writeSubframe_138 : decode prog_13_method_36_code 138 = .ok (.aload_n 0, 1) := by decide +kernel
theorem d_Mo_writeSubframe_139 : decode prog_13_method_36_code 139 = .ok (.getfield 303, 3) := by decide +kernel
theorem d_Mo_writeSubframe_142 : decode prog_13_method_36_code 142 = .ok (.i2l, 1) := by decide +kernel
theorem d_Mo_writeSubframe_143 : decode prog_13_method_36_code 143 = .ok (.iconst 4, 1) := by decide +kernel
theorem d_Mo_writeSubframe_144 : decode prog_13_method_36_code 144 = .ok (.invokevirtual 306, 3) := by decide +kernel
theorem d_Mo_writeSubframe_147 : decode prog_13_method_36_code 147 = .ok (.iconst 0, 1) := by decide +kernel
theorem d_Mo_writeSubframe_148 : decode prog_13_method_36_code 148 = .ok (.istore 5, 2) := by decide +kernel
theorem d_Mo_writeSubframe_150 : decode prog_13_method_36_code 150 = .ok (.iload 5, 2) := by decide +kernel
theorem d_Mo_writeSubframe_152 : decode prog_13_method_36_code 152 = .ok (.iconst 1, 1) := by decide +kernel
theorem d_Mo_writeSubframe_153 : decode prog_13_method_36_code 153 = .ok (.aload_n 0, 1) := by decide +kernel
theorem d_Mo_writeSubframe_154 : decode prog_13_method_36_code 154 = .ok (.getfield 303, 3) := by decide +kernel
theorem d_Mo_writeSubframe_157 : decode prog_13_method_36_code 157 = .ok (.ishl, 1) := by decide +kernel
theorem d_Mo_writeSubframe_158 : decode prog_13_method_36_code 158 = .ok (.if_icmp .ge 41, 3) := by decide +kernel
theorem d_Mo_writeSubframe_161 : decode prog_13_method_36_code 161 = .ok (.aload_n 0, 1) := by decide +kernel
theorem d_Mo_writeSubframe_162 : decode prog_13_method_36_code 162 = .ok (.iload 5, 2) := by decide +kernel
theorem d_Mo_writeSubframe_164 : decode prog_13_method_36_code 164 = .ok (.aload_n 0, 1) := by decide +kernel
theorem d_Mo_writeSubframe_165 : decode prog_13_method_36_code 165 = .ok (.getfield 303, 3) := by decide +kernel
theorem d_Mo_writeSubframe_168 : decode prog_13_method_36_code 168 = .ok (.aload_n 0, 1) := by decide +kernel
theorem d_Mo_writeSubframe_169 : decode prog_13_method_36_code 169 = .ok (.getfield 291, 3) := by decide +kernel
theorem d_Mo_writeSubframe_172 : decode prog_13_method_36_code 172 = .ok (.bipush 8, 2) := by decide +kernel
theorem d_Mo_writeSubframe_174 : decode prog_13_method_36_code 174 = .ok (.isub, 1) := by decide +kernel
theorem d_Mo_writeSubframe_175 : decode prog_13_method_36_code 175 = .ok (.iload_n 1, 1) := by decide +kernel
theorem d_Mo_writeSubframe_176 : decode prog_13_method_36_code 176 = .ok (.invokestatic 275, 3) := by decide +kernel
theorem d_Mo_writeSubframe_179 : decode prog_13_method_36_code 179 = .ok (.iload 5, 2) := by decide +kernel
theorem d_Mo_writeSubframe_181 : decode prog_13_method_36_code 181 = .ok (.iconst 1, 1) := by decide +kernel
theorem d_Mo_writeSubframe_182 : decode prog_13_method_36_code 182 = .ok (.iadd, 1) := by decide +kernel
theorem d_Mo_writeSubframe_183 : decode prog_13_method_36_code 183 = .ok (.iload_n 1, 1) := by decide +kernel
theorem d_Mo_writeSubframe_184 : decode prog_13_method_36_code 184 = .ok (.aload_n 0, 1) := by decide +kernel
theorem d_Mo_writeSubframe_185 : decode prog_13_method_36_code 185 = .ok (.getfield 303, 3) := by decide +kernel
theorem d_Mo_writeSubframe_188 : decode prog_13_method_36_code 188 = .ok (.ishr, 1) := by decide +kernel
theorem d_Mo_writeSubframe_189 : decode prog_13_method_36_code 189 = .ok (.imul, 1) := by decide +kernel
theorem d_Mo_writeSubframe_190 : decode prog_13_method_36_code 190 = .ok (.invokevirtual 310, 3) := by decide +kernel
theorem d_Mo_writeSubframe_193 : decode prog_13_method_36_code 193 = .ok (.iinc 5 1, 3) := by decide +kernel
theorem d_Mo_writeSubframe_196 : decode prog_13_method_36_code 196 = .ok (.goto (-46), 3) := by decide +kernel
theorem d_Mo_writeSubframe_199 : decode prog_13_method_36_code 199 = .ok (.return_, 1) := by decide +kernel
theorem d_Mo_writePart_0 : decode prog_13_method_37_code 0 = .ok (.aload_n 0, 1) := by decide +kernel
theorem d_Mo_writePart_1 : decode prog_13_method_37_code 1 = .ok (.iload_n 1, 1) := by decide +kernel
theorem d_Mo_writePart_2 : decode prog_13_method_37_code 2 = .ok (.iload_n 2, 1) := by decide +kernel
theorem d_Mo_writePart_3 : decode prog_13_method_37_code 3 = .ok (.invokevirtual 278, 3) := by decide +kernel
theorem d_Mo_writePart_6 : decode prog_13_method_37_code 6 = .ok (.istore_n 3, 1) := by decide +kernel
theorem d_Mo_writePart_7 : decode prog_13_method_37_code 7 = .ok (.aload_n 0, 1) := by decide +kernel
theorem d_Mo_writePart_8 : decode prog_13_method_37_code 8 = .ok (.iload_n 1, 1) := by decide +kernel
theorem d_Mo_writePart_9 : decode prog_13_method_37_code 9 = .ok (.iload_n 2, 1) := by decide +kernel
theorem d_Mo_writePart_10 : decode prog_13_method_37_code 10 = .ok (.invokevirtual 261, 3) := by decide +kernel
theorem d_Mo_writePart_13 : decode prog_13_method_37_code 13 = .ok (.istore 4, 2) := by decide +kernel
theorem d_Mo_writePart_15 : decode prog_13_method_37_code 15 = .ok (.aload_n 0, 1) := by decide +kernel
theorem d_Mo_writePart_16 : decode prog_13_method_37_code 16 = .ok (.iload_n 3, 1) := by decide +kernel
theorem d_Mo_writePart_17 : decode prog_13_method_37_code 17 = .ok (.i2l, 1) := by decide +kernel
theorem d_Mo_writePart_18 : decode prog_13_method_37_code 18 = .ok (.iconst 4, 1) := by decide +kernel
theorem d_Mo_writePart_19 : decode prog_13_method_37_code 19 = .ok (.invokevirtual 306, 3) := by decide +kernel
theorem d_Mo_writePart_22 : decode prog_13_method_37_code 22 = .ok (.iload_n 3, 1) := by decide +kernel
theorem d_Mo_writePart_23 : decode prog_13_method_37_code 23 = .ok (.bipush 15, 2) := by decide +kernel
theorem d_Mo_writePart_25 : decode prog_13_method_37_code 25 = .ok (.if_icmp .ne 11, 3) := by decide +kernel
theorem d_Mo_writePart_28 : decode prog_13_method_37_code 28 = .ok (.aload_n 0, 1) := by decide +kernel
theorem d_Mo_writePart_29 : decode prog_13_method_37_code 29 = .ok (.iload 4, 2) := by decide +kernel
theorem d_Mo_writePart_31 : decode prog_13_method_37_code 31 = .ok (.i2l, 1) := by decide +kernel
theorem d_Mo_writePart_32 : decode prog_13_method_37_code 32 = .ok (.iconst 5, 1) := by decide +kernel
theorem d_Mo_writePart_33 : decode prog_13_method_37_code 33 = .ok (.invokevirtual 306, 3) := by decide +kernel
theorem d_Mo_writePart_36 : decode prog_13_method_37_code 36 = .ok (.iload_n 1, 1) := by decide +kernel
theorem d_Mo_writePart_37 : decode prog_13_method_37_code 37 = .ok (.istore 5, 2) := by decide +kernel
theorem d_Mo_writePart_39 : decode prog_13_method_37_code 39 = .ok (.iload 5, 2) := by decide +kernel
theorem d_Mo_writePart_41 : decode prog_13_method_37_code 41 = .ok (.iload_n 2, 1) := by decide +kernel
theorem d_Mo_writePart_42 : decode prog_13_method_37_code 42 = .ok (.if_icmp .ge 81, 3) := by decide +kernel
theorem d_Mo_writePart_45 : decode prog_13_method_37_code 45 = .ok (.iload_n 3, 1) := by decide +kernel
theorem d_Mo_writePart_46 : decode prog_13_method_37_code 46 = .ok (.bipush 15, 2) := by decide +kernel
theorem d_Mo_writePart_48 : decode prog_13_method_37_code 48 = .ok (.if_icmp .ne 20, 3) := by decide +kernel
theorem d_Mo_writePart_51 : decode prog_13_method_37_code 51 = .ok (.aload_n 0, 1) := by decide +kernel
theorem d_Mo_writePart_52 : decode prog_13_method_37_code 52 = .ok (.aload_n 0, 1) := by decide +kernel
theorem d_Mo_writePart_53 : decode prog_13_method_37_code 53 = .ok (.getfield 179, 3) := by decide +kernel
theorem d_Mo_writePart_56 : decode prog_13_method_37_code 56 = .ok (.iload 5, 2) := by decide +kernel
theorem d_Mo_writePart_58 : decode prog_13_method_37_code 58 = .ok (.iaload, 1) := by decide +kernel
theorem d_Mo_writePart_59 : decode prog_13_method_37_code 59 = .ok (.i2l, 1) := by decide +kernel
theorem d_Mo_writePart_60 : decode prog_13_method_37_code 60 = .ok (.iload 4, 2) := by decide +kernel
theorem d_Mo_writePart_62 : decode prog_13_method_37_code 62 = .ok (.invokevirtual 306, 3) := by decide +kernel
theorem d_Mo_writePart_65 : decode prog_13_method_37_code 65 = .ok (.goto 52, 3) := by decide +kernel
theorem d_Mo_writePart_68 : decode prog_13_method_37_code 68 = .ok (.aload_n 0, 1) := by decide +kernel
theorem d_Mo_writePart_69 : decode prog_13_method_37_code 69 = .ok (.getfield 179, 3) := by decide +kernel
theorem d_Mo_writePart_72 : decode prog_13_method_37_code 72 = .ok (.iload 5, 2) := by decide +kernel
theorem d_Mo_writePart_74 : decode prog_13_method_37_code 74 = .ok (.iaload, 1) := by decide +kernel
theorem d_Mo_writePart_75 : decode prog_13_method_37_code 75 = .ok (.invokestatic 266, 3) := by decide +kernel
theorem d_Mo_writePart_78 : decode prog_13_method_37_code 78 = .ok (.istore 6, 2) := by decide +kernel
theorem d_Mo_writePart_80 : decode prog_13_method_37_code 80 = .ok (.iload 6, 2) := by decide +kernel
theorem d_Mo_writePart_82 : decode prog_13_method_37_code 82 = .ok (.iload_n 3, 1) := by decide +kernel
theorem d_Mo_writePart_83 : decode prog_13_method_37_code 83 = .ok (.ishr, 1) := by decide +kernel
theorem d_Mo_writePart_84 : decode prog_13_method_37_code 84 = .ok (.istore 7, 2) := by decide +kernel
theorem d_Mo_writePart_86 : decode prog_13_method_37_code 86 = .ok (.iload 7, 2) := by decide +kernel
theorem d_Mo_writePart_88 : decode prog_13_method_37_code 88 = .ok (.ifCond .le 15, 3) := by decide +kernel
theorem d_Mo_writePart_91 : decode prog_13_method_37_code 91 = .ok (.aload_n 0, 1) := by decide +kernel
theorem d_Mo_writePart_92 : decode prog_13_method_37_code 92 = .ok (.lconst 0, 1) := by decide +kernel
theorem d_Mo_writePart_93 : decode prog_13_method_37_code 93 = .ok (.iconst 1, 1) := by decide +kernel
theorem d_Mo_writePart_94 : decode prog_13_method_37_code 94 = .ok (.invokevirtual 306, 3) := by decide +kernel
theorem d_Mo_writePart_97 : decode prog_13_method_37_code 97 = .ok (.iinc 7 (-1), 3) := by decide +kernel
theorem d_Mo_writePart_100 : decode prog_13_method_37_code 100 = .ok (.goto (-14), 3) := by decide +kernel
theorem d_Mo_writePart_103 : decode prog_13_method_37_code 103 = .ok (.aload_n 0, 1) := by decide +kernel
theorem d_Mo_writePart_104 : decode prog_13_method_37_code 104 = .ok (.lconst 1, 1) := by decide +kernel
theorem d_Mo_writePart_105 : decode prog_13_method_37_code 105 = .ok (.iconst 1, 1) := by decide +kernel
theorem d_Mo_writePart_106 : decode prog_13_method_37_code 106 = .ok (.invokevirtual 306, 3) := by decide +kernel
theorem d_Mo_writePart_109 : decode prog_13_method_37_code 109 = .ok (.aload_n 0, 1) := by decide +kernel
theorem d_Mo_writePart_110 : decode prog_13_method_37_code 110 = .ok (.iload 6, 2) := by decide +kernel
theorem d_Mo_writePart_112 : decode prog_13_method_37_code 112 = .ok (.i2l, 1) := by decide +kernel
theorem d_Mo_writePart_113 : decode prog_13_method_37_code 113 = .ok (.iload_n 3, 1) := by decide +kernel
theorem d_Mo_writePart_114 : decode prog_13_method_37_code 114 = .ok (.invokevirtual 306, 3) := by decide +kernel
theorem d_Mo_writePart_117 : decode prog_13_method_37_code 117 = .ok (.iinc 5 1, 3) := by decide +kernel
theorem d_Mo_writePart_120 : decode prog_13_method_37_code 120 = .ok (.goto (-81), 3) := by decide +kernel
theorem d_Mo_writePart_123 : decode prog_13_method_37_code 123 = .ok (.return_, 1) := by decide +kernel
theorem d_Mo_signalOf_0 : decode prog_13_method_38_code 0 = .ok (.iload_n 1, 1) := by decide +kernel
theorem d_Mo_signalOf_1 : decode prog_13_method_38_code 1 = .ok (.ifCond .ne 27, 3) := by decide +kernel
theorem d_Mo_signalOf_4 : decode prog_13_method_38_code 4 = .ok (.iload_n 0, 1) := by decide +kernel
theorem d_Mo_signalOf_5 : decode prog_13_method_38_code 5 = .ok (.bipush 9, 2) := by decide +kernel
theorem d_Mo_signalOf_7 : decode prog_13_method_38_code 7 = .ok (.if_icmp .ne 7, 3) := by decide +kernel
theorem d_Mo_signalOf_10 : decode prog_13_method_38_code 10 = .ok (.iconst 2, 1) := by decide +kernel
theorem d_Mo_signalOf_11 : decode prog_13_method_38_code 11 = .ok (.goto 33, 3) := by decide +kernel
theorem d_Mo_signalOf_14 : decode prog_13_method_38_code 14 = .ok (.iload_n 0, 1) := by decide +kernel
theorem d_Mo_signalOf_15 : decode prog_13_method_38_code 15 = .ok (.bipush 10, 2) := by decide +kernel
theorem d_Mo_signalOf_17 : decode prog_13_method_38_code 17 = .ok (.if_icmp .ne 7, 3) := by decide +kernel
theorem d_Mo_signalOf_20 : decode prog_13_method_38_code 20 = .ok (.iconst 3, 1) := by decide +kernel
theorem d_Mo_signalOf_21 : decode prog_13_method_38_code 21 = .ok (.goto 23, 3) := by decide +kernel
theorem d_Mo_signalOf_24 : decode prog_13_method_38_code 24 = .ok (.iconst 0, 1) := by decide +kernel
theorem d_Mo_signalOf_25 : decode prog_13_method_38_code 25 = .ok (.goto 19, 3) := by decide +kernel
theorem d_Mo_signalOf_28 : decode prog_13_method_38_code 28 = .ok (.iload_n 0, 1) := by decide +kernel
theorem d_Mo_signalOf_29 : decode prog_13_method_38_code 29 = .ok (.iconst 1, 1) := by decide +kernel
theorem d_Mo_signalOf_30 : decode prog_13_method_38_code 30 = .ok (.if_icmp .eq 9, 3) := by decide +kernel
theorem d_Mo_signalOf_33 : decode prog_13_method_38_code 33 = .ok (.iload_n 0, 1) := by decide +kernel
theorem d_Mo_signalOf_34 : decode prog_13_method_38_code 34 = .ok (.bipush 9, 2) := by decide +kernel
theorem d_Mo_signalOf_36 : decode prog_13_method_38_code 36 = .ok (.if_icmp .ne 7, 3) := by decide +kernel
theorem d_Mo_signalOf_39 : decode prog_13_method_38_code 39 = .ok (.iconst 1, 1) := by decide +kernel
theorem d_Mo_signalOf_40 : decode prog_13_method_38_code 40 = .ok (.goto 4, 3) := by decide +kernel
theorem d_Mo_signalOf_43 : decode prog_13_method_38_code 43 = .ok (.iconst 2, 1) := by decide +kernel
theorem d_Mo_signalOf_44 : decode prog_13_method_38_code 44 = .ok (.ireturn, 1) := by decide +kernel
theorem d_Mo_costOf_0 : decode prog_13_method_39_code 0 = .ok (.iload_n 1, 1) := by decide +kernel
theorem d_Mo_costOf_1 : decode prog_13_method_39_code 1 = .ok (.iload_n 2, 1) := by decide +kernel
theorem d_Mo_costOf_2 : decode prog_13_method_39_code 2 = .ok (.invokestatic 313, 3) := by decide +kernel
theorem d_Mo_costOf_5 : decode prog_13_method_39_code 5 = .ok (.istore 5, 2) := by decide +kernel
theorem d_Mo_costOf_7 : decode prog_13_method_39_code 7 = .ok (.aload_n 0, 1) := by decide +kernel
theorem d_Mo_costOf_8 : decode prog_13_method_39_code 8 = .ok (.iload 5, 2) := by decide +kernel
theorem d_Mo_costOf_10 : decode prog_13_method_39_code 10 = .ok (.iload_n 3, 1) := by decide +kernel
theorem d_Mo_costOf_11 : decode prog_13_method_39_code 11 = .ok (.iload 4, 2) := by decide +kernel
theorem d_Mo_costOf_13 : decode prog_13_method_39_code 13 = .ok (.invokevirtual 316, 3) := by decide +kernel
theorem d_Mo_costOf_16 : decode prog_13_method_39_code 16 = .ok (.aload_n 0, 1) := by decide +kernel
theorem d_Mo_costOf_17 : decode prog_13_method_39_code 17 = .ok (.iload 4, 2) := by decide +kernel
theorem d_Mo_costOf_19 : decode prog_13_method_39_code 19 = .ok (.iload 5, 2) := by decide +kernel
theorem d_Mo_costOf_21 : decode prog_13_method_39_code 21 = .ok (.iconst 2, 1) := by decide +kernel
theorem d_Mo_costOf_22 : decode prog_13_method_39_code 22 = .ok (.if_icmp .ne 12, 3) := by decide +kernel
theorem d_Mo_costOf_25 : decode prog_13_method_39_code 25 = .ok (.aload_n 0, 1) := by decide +kernel
theorem d_Mo_costOf_26 : decode prog_13_method_39_code 26 = .ok (.getfield 149, 3) := by decide +kernel
theorem d_Mo_costOf_29 : decode prog_13_method_39_code 29 = .ok (.iconst 1, 1) := by decide +kernel
theorem d_Mo_costOf_30 : decode prog_13_method_39_code 30 = .ok (.iadd, 1) := by decide +kernel
theorem d_Mo_costOf_31 : decode prog_13_method_39_code 31 = .ok (.goto 7, 3) := by decide +kernel
theorem d_Mo_costOf_34 : decode prog_13_method_39_code 34 = .ok (.aload_n 0, 1) := by decide +kernel
theorem d_Mo_costOf_35 : decode prog_13_method_39_code 35 = .ok (.getfield 149, 3) := by decide +kernel
theorem d_Mo_costOf_38 : decode prog_13_method_39_code 38 = .ok (.invokevirtual 320, 3) := by decide +kernel
theorem d_Mo_costOf_41 : decode prog_13_method_39_code 41 = .ok (.lreturn, 1) := by decide +kernel
theorem d_Mo_bestC_0 : decode prog_13_method_40_code 0 = .ok (.aload_n 0, 1) := by decide +kernel
theorem d_Mo_bestC_1 : decode prog_13_method_40_code 1 = .ok (.getfield 145, 3) := by decide +kernel
theorem d_Mo_bestC_4 : decode prog_13_method_40_code 4 = .ok (.iconst 1, 1) := by decide +kernel
theorem d_Mo_bestC_5 : decode prog_13_method_40_code 5 = .ok (.if_icmp .ne 5, 3) := by decide +kernel
theorem d_Mo_bestC_8 : decode prog_13_method_40_code 8 = .ok (.iconst 0, 1) := by decide +kernel
theorem d_Mo_bestC_9 : decode prog_13_method_40_code 9 = .ok (.ireturn, 1) := by decide +kernel
theorem d_Mo_bestC_10 : decode prog_13_method_40_code 10 = .ok (.iconst 1, 1) := by decide +kernel
theorem d_Mo_bestC_11 : decode prog_13_method_40_code 11 = .ok (.istore_n 3, 1) := by decide +kernel
theorem d_Mo_bestC_12 : decode prog_13_method_40_code 12 = .ok (.aload_n 0, 1) := by decide +kernel
theorem d_Mo_bestC_13 : decode prog_13_method_40_code 13 = .ok (.iconst 1, 1) := by decide +kernel
theorem d_Mo_bestC_14 : decode prog_13_method_40_code 14 = .ok (.iconst 0, 1) := by decide +kernel
theorem d_Mo_bestC_15 : decode prog_13_method_40_code 15 = .ok (.iload_n 1, 1) := by decide +kernel
theorem d_Mo_bestC_16 : decode prog_13_method_40_code 16 = .ok (.iload_n 2, 1) := by decide +kernel
theorem d_Mo_bestC_17 : decode prog_13_method_40_code 17 = .ok (.invokevirtual 324, 3) := by decide +kernel
theorem d_Mo_bestC_20 : decode prog_13_method_40_code 20 = .ok (.aload_n 0, 1) := by decide +kernel
theorem d_Mo_bestC_21 : decode prog_13_method_40_code 21 = .ok (.iconst 1, 1) := by decide +kernel
theorem d_Mo_bestC_22 : decode prog_13_method_40_code 22 = .ok (.iconst 1, 1) := by decide +kernel
theorem d_Mo_bestC_23 : decode prog_13_method_40_code 23 = .ok (.iload_n 1, 1) := by decide +kernel
theorem d_Mo_bestC_24 : decode prog_13_method_40_code 24 = .ok (.iload_n 2, 1) := by decide +kernel
theorem d_Mo_bestC_25 : decode prog_13_method_40_code 25 = .ok (.invokevirtual 324, 3) := by decide +kernel
theorem d_Mo_bestC_28 : decode prog_13_method_40_code 28 = .ok (.ladd, 1) := by decide +kernel
theorem d_Mo_bestC_29 : decode prog_13_method_40_code 29 = .ok (.lstore 4, 2) := by decide +kernel
theorem d_Mo_bestC_31 : decode prog_13_method_40_code 31 = .ok (.bipush 8, 2) := by decide +kernel
theorem d_Mo_bestC_33 : decode prog_13_method_40_code 33 = .ok (.istore 6, 2) := by decide +kernel
theorem d_Mo_bestC_35 : decode prog_13_method_40_code 35 = .ok (.iload 6, 2) := by decide +kernel
theorem d_Mo_bestC_37 : decode prog_13_method_40_code 37 = .ok (.bipush 11, 2) := by decide +kernel
theorem d_Mo_bestC_39 : decode prog_13_method_40_code 39 = .ok (.if_icmp .ge 45, 3) := by decide +kernel
theorem d_Mo_bestC_42 : decode prog_13_method_40_code 42 = .ok (.aload_n 0, 1) := by decide +kernel
theorem d_Mo_bestC_43 : decode prog_13_method_40_code 43 = .ok (.iload 6, 2) := by decide +kernel
theorem d_Mo_bestC_45 : decode prog_13_method_40_code 45 = .ok (.iconst 0, 1) := by decide +kernel
theorem d_Mo_bestC_46 : decode prog_13_method_40_code 46 = .ok (.iload_n 1, 1) := by decide +kernel
theorem d_Mo_bestC_47 : decode prog_13_method_40_code 47 = .ok (.iload_n 2, 1) := by decide +kernel
theorem d_Mo_bestC_48 : decode prog_13_method_40_code 48 = .ok (.invokevirtual 324, 3) := by decide +kernel
theorem d_Mo_bestC_51 : decode prog_13_method_40_code 51 = .ok (.aload_n 0, 1) := by decide +kernel
theorem d_Mo_bestC_52 : decode prog_13_method_40_code 52 = .ok (.iload 6, 2) := by decide +kernel
theorem d_Mo_bestC_54 : decode prog_13_method_40_code 54 = .ok (.iconst 1, 1) := by decide +kernel
theorem d_Mo_bestC_55 : decode prog_13_method_40_code 55 = .ok (.iload_n 1, 1) := by decide +kernel
theorem d_Mo_bestC_56 : decode prog_13_method_40_code 56 = .ok (.iload_n 2, 1) := by decide +kernel
theorem d_Mo_bestC_57 : decode prog_13_method_40_code 57 = .ok (.invokevirtual 324, 3) := by decide +kernel
theorem d_Mo_bestC_60 : decode prog_13_method_40_code 60 = .ok (.ladd, 1) := by decide +kernel
theorem d_Mo_bestC_61 : decode prog_13_method_40_code 61 = .ok (.lstore 7, 2) := by decide +kernel
theorem d_Mo_bestC_63 : decode prog_13_method_40_code 63 = .ok (.lload 7, 2) := by decide +kernel
theorem d_Mo_bestC_65 : decode prog_13_method_40_code 65 = .ok (.lload 4, 2) := by decide +kernel
theorem d_Mo_bestC_67 : decode prog_13_method_40_code 67 = .ok (.lcmp, 1) := by decide +kernel
theorem d_Mo_bestC_68 : decode prog_13_method_40_code 68 = .ok (.ifCond .ge 10, 3) := by decide +kernel
theorem d_Mo_bestC_71 : decode prog_13_method_40_code 71 = .ok (.lload 7, 2) := by decide +kernel
theorem d_Mo_bestC_73 : decode prog_13_method_40_code 73 = .ok (.lstore 4, 2) := by decide +kernel
theorem d_Mo_bestC_75 : decode prog_13_method_40_code 75 = .ok (.iload 6, 2) := by decide +kernel
theorem d_Mo_bestC_77 : decode prog_13_method_40_code 77 = .ok (.istore_n 3, 1) := by decide +kernel
theorem d_Mo_bestC_78 : decode prog_13_method_40_code 78 = .ok (.iinc 6 1, 3) := by decide +kernel
theorem d_Mo_bestC_81 : decode prog_13_method_40_code 81 = .ok (.goto (-46), 3) := by decide +kernel
theorem d_Mo_bestC_84 : decode prog_13_method_40_code 84 = .ok (.iload_n 3, 1) := by decide +kernel
theorem d_Mo_bestC_85 : decode prog_13_method_40_code 85 = .ok (.ireturn, 1) := by decide +kernel
theorem d_Mo_writeFrame_0 : decode prog_13_method_41_code 0 = .ok (.aload_n 0, 1) := by decide +kernel
theorem d_Mo_writeFrame_1 : decode prog_13_method_41_code 1 = .ok (.iload_n 1, 1) := by decide +kernel
theorem d_Mo_writeFrame_2 : decode prog_13_method_41_code 2 = .ok (.iload_n 2, 1) := by decide +kernel
theorem d_Mo_writeFrame_3 : decode prog_13_method_41_code 3 = .ok (.invokevirtual 328, 3) := by decide +kernel
theorem d_Mo_writeFrame_6 : decode prog_13_method_41_code 6 = .ok (.istore 4, 2) := by decide +kernel
theorem d_Mo_writeFrame_8 : decode prog_13_method_41_code 8 = .ok (.aload_n 0, 1) := by decide +kernel
theorem d_Mo_writeFrame_9 : decode prog_13_method_41_code 9 = .ok (.getfield 244, 3) := by decide +kernel
theorem d_Mo_writeFrame_12 : decode prog_13_method_41_code 12 = .ok (.ldc2_w 222, 3) := by decide +kernel
theorem d_Mo_writeFrame_15 : decode prog_13_method_41_code 15 = .ok (.ldiv, 1) := by decide +kernel
theorem d_Mo_writeFrame_16 : decode prog_13_method_41_code 16 = .ok (.l2i, 1) := by decide +kernel
theorem d_Mo_writeFrame_17 : decode prog_13_method_41_code 17 = .ok (.istore 5, 2) := by decide +kernel
theorem d_Mo_writeFrame_19 : decode prog_13_method_41_code 19 = .ok (.bipush 9, 2) := by decide +kernel
theorem d_Mo_writeFrame_21 : decode prog_13_method_41_code 21 = .ok (.aload_n 0, 1) := by decide +kernel
theorem d_Mo_writeFrame_22 : decode prog_13_method_41_code 22 = .ok (.getfield 331, 3) := by decide +kernel
theorem d_Mo_writeFrame_25 : decode prog_13_method_41_code 25 = .ok (.imul, 1) := by decide +kernel
theorem d_Mo_writeFrame_26 : decode prog_13_method_41_code 26 = .ok (.istore 6, 2) := by decide +kernel
theorem d_Mo_writeFrame_28 : decode prog_13_method_41_code 28 = .ok (.aload_n 0, 1) := by decide +kernel
theorem d_Mo_writeFrame_29 : decode prog_13_method_41_code 29 = .ok (.ldc2_w 334, 3) := by decide +kernel
theorem d_Mo_writeFrame_32 : decode prog_13_method_41_code 32 = .ok (.iload_n 3, 1) := by decide +kernel
theorem d_Mo_writeFrame_33 : decode prog_13_method_41_code 33 = .ok (.ifCond .eq 7, 3) := by decide +kernel
theorem d_Mo_writeFrame_36 : decode prog_13_method_41_code 36 = .ok (.lconst 1, 1) := by decide +kernel
theorem d_Mo_writeFrame_37 : decode prog_13_method_41_code 37 = .ok (.goto 4, 3) := by decide +kernel
theorem d_Mo_writeFrame_40 : decode prog_13_method_41_code 40 = .ok (.lconst 0, 1) := by decide +kernel
theorem d_Mo_writeFrame_41 : decode prog_13_method_41_code 41 = .ok (.lor, 1) := by decide +kernel
theorem d_Mo_writeFrame_42 : decode prog_13_method_41_code 42 = .ok (.bipush 16, 2) := by decide +kernel
theorem d_Mo_writeFrame_44 : decode prog_13_method_41_code 44 = .ok (.invokevirtual 306, 3) := by decide +kernel
theorem d_Mo_writeFrame_47 : decode prog_13_method_41_code 47 = .ok (.aload_n 0, 1) := by decide +kernel
theorem d_Mo_writeFrame_48 : decode prog_13_method_41_code 48 = .ok (.iload_n 2, 1) := by decide +kernel
theorem d_Mo_writeFrame_49 : decode prog_13_method_41_code 49 = .ok (.sipush 256, 3) := by decide +kernel
theorem d_Mo_writeFrame_52 : decode prog_13_method_41_code 52 = .ok (.if_icmp .gt 9, 3) := by decide +kernel
theorem d_Mo_writeFrame_55 : decode prog_13_method_41_code 55 = .ok (.ldc2_w 273, 3) := by decide +kernel
theorem d_Mo_writeFrame_58 : decode prog_13_method_41_code 58 = .ok (.goto 6, 3) := by decide +kernel
theorem d_Mo_writeFrame_61 : decode prog_13_method_41_code 61 = .ok (.ldc2_w 336, 3) := by decide +kernel
theorem d_Mo_writeFrame_64 : decode prog_13_method_41_code 64 = .ok (.iconst 4, 1) := by decide +kernel
theorem d_Mo_writeFrame_65 : decode prog_13_method_41_code 65 = .ok (.invokevirtual 306, 3) := by decide +kernel
theorem d_Mo_writeFrame_68 : decode prog_13_method_41_code 68 = .ok (.aload_n 0, 1) := by decide +kernel
theorem d_Mo_writeFrame_69 : decode prog_13_method_41_code 69 = .ok (.lconst 0, 1) := by decide +kernel
theorem d_Mo_writeFrame_70 : decode prog_13_method_41_code 70 = .ok (.iconst 4, 1) := by decide +kernel
theorem d_Mo_writeFrame_71 : decode prog_13_method_41_code 71 = .ok (.invokevirtual 306, 3) := by decide +kernel
theorem d_Mo_writeFrame_74 : decode prog_13_method_41_code 74 = .ok (.aload_n 0, 1) := by decide +kernel
theorem d_Mo_writeFrame_75 : decode prog_13_method_41_code 75 = .ok (.iload 4, 2) := by decide +kernel
theorem d_Mo_writeFrame_77 : decode prog_13_method_41_code 77 = .ok (.i2l, 1) := by decide +kernel
theorem d_Mo_writeFrame_78 : decode prog_13_method_41_code 78 = .ok (.iconst 4, 1) := by decide +kernel
theorem d_Mo_writeFrame_79 : decode prog_13_method_41_code 79 = .ok (.invokevirtual 306, 3) := by decide +kernel
theorem d_Mo_writeFrame_82 : decode prog_13_method_41_code 82 = .ok (.aload_n 0, 1) := by decide +kernel
theorem d_Mo_writeFrame_83 : decode prog_13_method_41_code 83 = .ok (.lconst 0, 1) := by decide +kernel
theorem d_Mo_writeFrame_84 : decode prog_13_method_41_code 84 = .ok (.iconst 4, 1) := by decide +kernel
theorem d_Mo_writeFrame_85 : decode prog_13_method_41_code 85 = .ok (.invokevirtual 306, 3) := by decide +kernel
theorem d_Mo_writeFrame_88 : decode prog_13_method_41_code 88 = .ok (.iload_n 3, 1) := by decide +kernel
theorem d_Mo_writeFrame_89 : decode prog_13_method_41_code 89 = .ok (.ifCond .eq 7, 3) := by decide +kernel
theorem d_Mo_writeFrame_92 : decode prog_13_method_41_code 92 = .ok (.iload_n 1, 1) := by decide +kernel
theorem d_Mo_writeFrame_93 : decode prog_13_method_41_code 93 = .ok (.goto 7, 3) := by decide +kernel
theorem d_Mo_writeFrame_96 : decode prog_13_method_41_code 96 = .ok (.aload_n 0, 1) := by decide +kernel
theorem d_Mo_writeFrame_97 : decode prog_13_method_41_code 97 = .ok (.getfield 331, 3) := by decide +kernel
theorem d_Mo_writeFrame_100 : decode prog_13_method_41_code 100 = .ok (.istore 7, 2) := by decide +kernel
theorem d_Mo_writeFrame_102 : decode prog_13_method_41_code 102 = .ok (.iconst 0, 1) := by decide +kernel
theorem d_Mo_writeFrame_103 : decode prog_13_method_41_code 103 = .ok (.istore 8, 2) := by decide +kernel
theorem d_Mo_writeFrame_105 : decode prog_13_method_41_code 105 = .ok (.iload 7, 2) := by decide +kernel
theorem d_Mo_writeFrame_107 : decode prog_13_method_41_code 107 = .ok (.iload 8, 2) := by decide +kernel
theorem d_Mo_writeFrame_109 : decode prog_13_method_41_code 109 = .ok (.invokestatic 338, 3) := by decide +kernel
theorem d_Mo_writeFrame_112 : decode prog_13_method_41_code 112 = .ok (.ifCond .lt 23, 3) := by decide +kernel
theorem d_Mo_writeFrame_115 : decode prog_13_method_41_code 115 = .ok (.aload_n 0, 1) := by decide +kernel
theorem d_Mo_writeFrame_116 : decode prog_13_method_41_code 116 = .ok (.iload 7, 2) := by decide +kernel
theorem d_Mo_writeFrame_118 : decode prog_13_method_41_code 118 = .ok (.iload 8, 2) := by decide +kernel
theorem d_Mo_writeFrame_120 : decode prog_13_method_41_code 120 = .ok (.invokestatic 338, 3) := by decide +kernel
theorem d_Mo_writeFrame_123 : decode prog_13_method_41_code 123 = .ok (.i2l, 1) := by decide +kernel
theorem d_Mo_writeFrame_124 : decode prog_13_method_41_code 124 = .ok (.bipush 8, 2) := by decide +kernel
theorem d_Mo_writeFrame_126 : decode prog_13_method_41_code 126 = .ok (.invokevirtual 306, 3) := by decide +kernel
theorem d_Mo_writeFrame_129 : decode prog_13_method_41_code 129 = .ok (.iinc 8 1, 3) := by decide +kernel
theorem d_Mo_writeFrame_132 : decode prog_13_method_41_code 132 = .ok (.goto (-27), 3) := by decide +kernel
theorem d_Mo_writeFrame_135 : decode prog_13_method_41_code 135 = .ok (.aload_n 0, 1) := by decide +kernel
theorem d_Mo_writeFrame_136 : decode prog_13_method_41_code 136 = .ok (.iload_n 2, 1) := by decide +kernel
theorem d_Mo_writeFrame_137 : decode prog_13_method_41_code 137 = .ok (.i2l, 1) := by decide +kernel
theorem d_Mo_writeFrame_138 : decode prog_13_method_41_code 138 = .ok (.lconst 1, 1) := by decide +kernel
theorem d_Mo_writeFrame_139 : decode prog_13_method_41_code 139 = .ok (.lsub, 1) := by decide +kernel
theorem d_Mo_writeFrame_140 : decode prog_13_method_41_code 140 = .ok (.iload_n 2, 1) := by decide +kernel
theorem d_Mo_writeFrame_141 : decode prog_13_method_41_code 141 = .ok (.sipush 256, 3) := by decide +kernel
theorem d_Mo_writeFrame_144 : decode prog_13_method_41_code 144 = .ok (.if_icmp .gt 8, 3) := by decide +kernel
theorem d_Mo_writeFrame_147 : decode prog_13_method_41_code 147 = .ok (.bipush 8, 2) := by decide +kernel
theorem d_Mo_writeFrame_149 : decode prog_13_method_41_code 149 = .ok (.goto 5, 3) := by decide +kernel
theorem d_Mo_writeFrame_152 : decode prog_13_method_41_code 152 = .ok (.bipush 16, 2) := by decide +kernel
theorem d_Mo_writeFrame_154 : decode prog_13_method_41_code 154 = .ok (.invokevirtual 306, 3) := by decide +kernel
theorem d_Mo_writeFrame_157 : decode prog_13_method_41_code 157 = .ok (.aload_n 0, 1) := by decide +kernel
theorem d_Mo_writeFrame_158 : decode prog_13_method_41_code 158 = .ok (.aload_n 0, 1) := by decide +kernel
theorem d_Mo_writeFrame_159 : decode prog_13_method_41_code 159 = .ok (.bipush 8, 2) := by decide +kernel
theorem d_Mo_writeFrame_161 : decode prog_13_method_41_code 161 = .ok (.iload 5, 2) := by decide +kernel
theorem d_Mo_writeFrame_163 : decode prog_13_method_41_code 163 = .ok (.aload_n 0, 1) := by decide +kernel
theorem d_Mo_writeFrame_164 : decode prog_13_method_41_code 164 = .ok (.getfield 244, 3) := by decide +kernel
theorem d_Mo_writeFrame_167 : decode prog_13_method_41_code 167 = .ok (.ldc2_w 222, 3) := by decide +kernel
theorem d_Mo_writeFrame_170 : decode prog_13_method_41_code 170 = .ok (.ldiv, 1) := by decide +kernel
theorem d_Mo_writeFrame_171 : decode prog_13_method_41_code 171 = .ok (.l2i, 1) := by decide +kernel
theorem d_Mo_writeFrame_172 : decode prog_13_method_41_code 172 = .ok (.invokevirtual 341, 3) := by decide +kernel
theorem d_Mo_writeFrame_175 : decode prog_13_method_41_code 175 = .ok (.i2l, 1) := by decide +kernel
theorem d_Mo_writeFrame_176 : decode prog_13_method_41_code 176 = .ok (.bipush 8, 2) := by decide +kernel
theorem d_Mo_writeFrame_178 : decode prog_13_method_41_code 178 = .ok (.invokevirtual 306, 3) := by decide +kernel
theorem d_Mo_writeFrame_181 : decode prog_13_method_41_code 181 = .ok (.iconst 0, 1) := by decide +kernel
theorem d_Mo_writeFrame_182 : decode prog_13_method_41_code 182 = .ok (.istore 8, 2) := by decide +kernel
theorem d_Mo_writeFrame_184 : decode prog_13_method_41_code 184 = .ok (.iload 8, 2) := by decide +kernel
theorem d_Mo_writeFrame_186 : decode prog_13_method_41_code 186 = .ok (.bipush 6, 2) := by decide +kernel
theorem d_Mo_writeFrame_188 : decode prog_13_method_41_code 188 = .ok (.if_icmp .ge 22, 3) := by decide +kernel
theorem d_Mo_writeFrame_191 : decode prog_13_method_41_code 191 = .ok (.aload_n 0, 1) := by decide +kernel
theorem d_Mo_writeFrame_192 : decode prog_13_method_41_code 192 = .ok (.getfield 173, 3) := by decide +kernel
theorem d_Mo_writeFrame_195 : decode prog_13_method_41_code 195 = .ok (.iload 6, 2) := by decide +kernel
theorem d_Mo_writeFrame_197 : decode prog_13_method_41_code 197 = .ok (.iconst 3, 1) := by decide +kernel
theorem d_Mo_writeFrame_198 : decode prog_13_method_41_code 198 = .ok (.iadd, 1) := by decide +kernel
theorem d_Mo_writeFrame_199 : decode prog_13_method_41_code 199 = .ok (.iload 8, 2) := by decide +kernel
theorem d_Mo_writeFrame_201 : decode prog_13_method_41_code 201 = .ok (.iadd, 1) := by decide +kernel
theorem d_Mo_writeFrame_202 : decode prog_13_method_41_code 202 = .ok (.iconst (-1), 1) := by decide +kernel
theorem d_Mo_writeFrame_203 : decode prog_13_method_41_code 203 = .ok (.iastore, 1) := by decide +kernel
theorem d_Mo_writeFrame_204 : decode prog_13_method_41_code 204 = .ok (.iinc 8 1, 3) := by decide +kernel
theorem d_Mo_writeFrame_207 : decode prog_13_method_41_code 207 = .ok (.goto (-23), 3) := by decide +kernel
theorem d_Mo_writeFrame_210 : decode prog_13_method_41_code 210 = .ok (.iconst 0, 1) := by decide +kernel
theorem d_Mo_writeFrame_211 : decode prog_13_method_41_code 211 = .ok (.istore 8, 2) := by decide +kernel
theorem d_Mo_writeFrame_213 : decode prog_13_method_41_code 213 = .ok (.iload 8, 2) := by decide +kernel
theorem d_Mo_writeFrame_215 : decode prog_13_method_41_code 215 = .ok (.aload_n 0, 1) := by decide +kernel
theorem d_Mo_writeFrame_216 : decode prog_13_method_41_code 216 = .ok (.getfield 145, 3) := by decide +kernel
theorem d_Mo_writeFrame_219 : decode prog_13_method_41_code 219 = .ok (.if_icmp .ge 99, 3) := by decide +kernel
theorem d_Mo_writeFrame_222 : decode prog_13_method_41_code 222 = .ok (.aload_n 0, 1) := by decide +kernel
theorem d_Mo_writeFrame_223 : decode prog_13_method_41_code 223 = .ok (.getfield 173, 3) := by decide +kernel
theorem d_Mo_writeFrame_226 : decode prog_13_method_41_code 226 = .ok (.iload 6, 2) := by decide +kernel
theorem d_Mo_writeFrame_228 : decode prog_13_method_41_code 228 = .ok (.iconst 5, 1) := by decide +kernel
theorem d_Mo_writeFrame_229 : decode prog_13_method_41_code 229 = .ok (.iadd, 1) := by decide +kernel
theorem d_Mo_writeFrame_230 : decode prog_13_method_41_code 230 = .ok (.iconst 3, 1) := by decide +kernel
theorem d_Mo_writeFrame_231 : decode prog_13_method_41_code 231 = .ok (.iload 8, 2) := by decide +kernel
theorem d_Mo_writeFrame_233 : decode prog_13_method_41_code 233 = .ok (.imul, 1) := by decide +kernel
theorem d_Mo_writeFrame_234 : decode prog_13_method_41_code 234 = .ok (.iadd, 1) := by decide +kernel
theorem d_Mo_writeFrame_235 : decode prog_13_method_41_code 235 = .ok (.aload_n 0, 1) := by decide +kernel
theorem d_Mo_writeFrame_236 : decode prog_13_method_41_code 236 = .ok (.iload 4, 2) := by decide +kernel
theorem d_Mo_writeFrame_238 : decode prog_13_method_41_code 238 = .ok (.iload 8, 2) := by decide +kernel
theorem d_Mo_writeFrame_240 : decode prog_13_method_41_code 240 = .ok (.iload_n 1, 1) := by decide +kernel
theorem d_Mo_writeFrame_241 : decode prog_13_method_41_code 241 = .ok (.iload_n 2, 1) := by decide +kernel
theorem d_Mo_writeFrame_242 : decode prog_13_method_41_code 242 = .ok (.invokevirtual 324, 3) := by decide +kernel
theorem d_Mo_writeFrame_245 : decode prog_13_method_41_code 245 = .ok (.l2i, 1) := by decide +kernel
theorem d_Mo_writeFrame_246 : decode prog_13_method_41_code 246 = .ok (.iastore, 1) := by decide +kernel
theorem d_Mo_writeFrame_247 : decode prog_13_method_41_code 247 = .ok (.aload_n 0, 1) := by decide +kernel
theorem d_Mo_writeFrame_248 : decode prog_13_method_41_code 248 = .ok (.getfield 173, 3) := by decide +kernel
theorem d_Mo_writeFrame_251 : decode prog_13_method_41_code 251 = .ok (.iload 6, 2) := by decide +kernel
theorem d_Mo_writeFrame_253 : decode prog_13_method_41_code 253 = .ok (.iconst 3, 1) := by decide +kernel
theorem d_Mo_writeFrame_254 : decode prog_13_method_41_code 254 = .ok (.iadd, 1) := by decide +kernel
theorem d_Mo_writeFrame_255 : decode prog_13_method_41_code 255 = .ok (.iconst 3, 1) := by decide +kernel
theorem d_Mo_writeFrame_256 : decode prog_13_method_41_code 256 = .ok (.iload 8, 2) := by decide +kernel
theorem d_Mo_writeFrame_258 : decode prog_13_method_41_code 258 = .ok (.imul, 1) := by decide +kernel
theorem d_Mo_writeFrame_259 : decode prog_13_method_41_code 259 = .ok (.iadd, 1) := by decide +kernel
theorem d_Mo_writeFrame_260 : decode prog_13_method_41_code 260 = .ok (.aload_n 0, 1) := by decide +kernel
theorem d_Mo_writeFrame_261 : decode prog_13_method_41_code 261 = .ok (.getfield 291, 3) := by decide +kernel
theorem d_Mo_writeFrame_264 : decode prog_13_method_41_code 264 = .ok (.iastore, 1) := by decide +kernel
theorem d_Mo_writeFrame_265 : decode prog_13_method_41_code 265 = .ok (.aload_n 0, 1) := by decide +kernel
theorem d_Mo_writeFrame_266 : decode prog_13_method_41_code 266 = .ok (.getfield 173, 3) := by decide +kernel
theorem d_Mo_writeFrame_269 : decode prog_13_method_41_code 269 = .ok (.iload 6, 2) := by decide +kernel
theorem d_Mo_writeFrame_271 : decode prog_13_method_41_code 271 = .ok (.iconst 4, 1) := by decide +kernel
theorem d_Mo_writeFrame_272 : decode prog_13_method_41_code 272 = .ok (.iadd, 1) := by decide +kernel
theorem d_Mo_writeFrame_273 : decode prog_13_method_41_code 273 = .ok (.iconst 3, 1) := by decide +kernel
theorem d_Mo_writeFrame_274 : decode prog_13_method_41_code 274 = .ok (.iload 8, 2) := by decide +kernel
theorem d_Mo_writeFrame_276 : decode prog_13_method_41_code 276 = .ok (.imul, 1) := by decide +kernel
theorem d_Mo_writeFrame_277 : decode prog_13_method_41_code 277 = .ok (.iadd, 1) := by decide +kernel
theorem d_Mo_writeFrame_278 : decode prog_13_method_41_code 278 = .ok (.aload_n 0, 1) := by decide +kernel
theorem d_Mo_writeFrame_279 : decode prog_13_method_41_code 279 = .ok (.getfield 253, 3) := by decide +kernel
theorem d_Mo_writeFrame_282 : decode prog_13_method_41_code 282 = .ok (.iastore, 1) := by decide +kernel
theorem d_Mo_writeFrame_283 : decode prog_13_method_41_code 283 = .ok (.aload_n 0, 1) := by decide +kernel
theorem d_Mo_writeFrame_284 : decode prog_13_method_41_code 284 = .ok (.iload_n 2, 1) := by decide +kernel
theorem d_Mo_writeFrame_285 : decode prog_13_method_41_code 285 = .ok (.iload 4, 2) := by decide +kernel
theorem d_Mo_writeFrame_287 : decode prog_13_method_41_code 287 = .ok (.iload 8, 2) := by decide +kernel
theorem d_Mo_writeFrame_289 : decode prog_13_method_41_code 289 = .ok (.invokestatic 313, 3) := by decide +kernel
theorem d_Mo_writeFrame_292 : decode prog_13_method_41_code 292 = .ok (.iconst 2, 1) := by decide +kernel
theorem d_Mo_writeFrame_293 : decode prog_13_method_41_code 293 = .ok (.if_icmp .ne 12, 3) := by decide +kernel
theorem d_Mo_writeFrame_296 : decode prog_13_method_41_code 296 = .ok (.aload_n 0, 1) := by decide +kernel
theorem d_Mo_writeFrame_297 : decode prog_13_method_41_code 297 = .ok (.getfield 149, 3) := by decide +kernel
theorem d_Mo_writeFrame_300 : decode prog_13_method_41_code 300 = .ok (.iconst 1, 1) := by decide +kernel
theorem d_Mo_writeFrame_301 : decode prog_13_method_41_code 301 = .ok (.iadd, 1) := by decide +kernel
theorem d_Mo_writeFrame_302 : decode prog_13_method_41_code 302 = .ok (.goto 7, 3) := by decide +kernel
theorem d_Mo_writeFrame_305 : decode prog_13_method_41_code 305 = .ok (.aload_n 0, 1) := by decide +kernel
theorem d_Mo_writeFrame_306 : decode prog_13_method_41_code 306 = .ok (.getfield 149, 3) := by decide +kernel
theorem d_Mo_writeFrame_309 : decode prog_13_method_41_code 309 = .ok (.invokevirtual 345, 3) := by decide +kernel
theorem d_Mo_writeFrame_312 : decode prog_13_method_41_code 312 = .ok (.iinc 8 1, 3) := by decide +kernel
theorem d_Mo_writeFrame_315 : decode prog_13_method_41_code 315 = .ok (.goto (-102), 3) := by decide +kernel
theorem d_Mo_writeFrame_318 : decode prog_13_method_41_code 318 = .ok (.aload_n 0, 1) := by decide +kernel
theorem d_Mo_writeFrame_319 : decode prog_13_method_41_code 319 = .ok (.getfield 244, 3) := by decide +kernel
theorem d_Mo_writeFrame_322 : decode prog_13_method_41_code 322 = .ok (.ldc2_w 222, 3) := by decide +kernel
theorem d_Mo_writeFrame_325 : decode prog_13_method_41_code 325 = .ok (.lrem, 1) := by decide +kernel
theorem d_Mo_writeFrame_326 : decode prog_13_method_41_code 326 = .ok (.lconst 0, 1) := by decide +kernel
theorem d_Mo_writeFrame_327 : decode prog_13_method_41_code 327 = .ok (.lcmp, 1) := by decide +kernel
theorem d_Mo_writeFrame_328 : decode prog_13_method_41_code 328 = .ok (.ifCond .eq 12, 3) := by decide +kernel
theorem d_Mo_writeFrame_331 : decode prog_13_method_41_code 331 = .ok (.aload_n 0, 1) := by decide +kernel
theorem d_Mo_writeFrame_332 : decode prog_13_method_41_code 332 = .ok (.lconst 0, 1) := by decide +kernel
theorem d_Mo_writeFrame_333 : decode prog_13_method_41_code 333 = .ok (.iconst 1, 1) := by decide +kernel
theorem d_Mo_writeFrame_334 : decode prog_13_method_41_code 334 = .ok (.invokevirtual 306, 3) := by decide +kernel
theorem d_Mo_writeFrame_337 : decode prog_13_method_41_code 337 = .ok (.goto (-19), 3) := by decide +kernel
theorem d_Mo_writeFrame_340 : decode prog_13_method_41_code 340 = .ok (.aload_n 0, 1) := by decide +kernel
theorem d_Mo_writeFrame_341 : decode prog_13_method_41_code 341 = .ok (.aload_n 0, 1) := by decide +kernel
theorem d_Mo_writeFrame_342 : decode prog_13_method_41_code 342 = .ok (.bipush 16, 2) := by decide +kernel
theorem d_Mo_writeFrame_344 : decode prog_13_method_41_code 344 = .ok (.iload 5, 2) := by decide +kernel
theorem d_Mo_writeFrame_346 : decode prog_13_method_41_code 346 = .ok (.aload_n 0, 1) := by decide +kernel
theorem d_Mo_writeFrame_347 : decode prog_13_method_41_code 347 = .ok (.getfield 244, 3) := by decide +kernel
theorem d_Mo_writeFrame_350 : decode prog_13_method_41_code 350 = .ok (.ldc2_w 222, 3) := by decide +kernel
theorem d_Mo_writeFrame_353 : decode prog_13_method_41_code 353 = .ok (.ldiv, 1) := by decide +kernel
theorem d_Mo_writeFrame_354 : decode prog_13_method_41_code 354 = .ok (.l2i, 1) := by decide +kernel
theorem d_Mo_writeFrame_355 : decode prog_13_method_41_code 355 = .ok (.invokevirtual 341, 3) := by decide +kernel
theorem d_Mo_writeFrame_358 : decode prog_13_method_41_code 358 = .ok (.i2l, 1) := by decide +kernel
theorem d_Mo_writeFrame_359 : decode prog_13_method_41_code 359 = .ok (.bipush 16, 2) := by decide +kernel
theorem d_Mo_writeFrame_361 : decode prog_13_method_41_code 361 = .ok (.invokevirtual 306, 3) := by decide +kernel
theorem d_Mo_writeFrame_364 : decode prog_13_method_41_code 364 = .ok (.aload_n 0, 1) := by decide +kernel
theorem d_Mo_writeFrame_365 : decode prog_13_method_41_code 365 = .ok (.getfield 173, 3) := by decide +kernel
theorem d_Mo_writeFrame_368 : decode prog_13_method_41_code 368 = .ok (.iload 6, 2) := by decide +kernel
theorem d_Mo_writeFrame_370 : decode prog_13_method_41_code 370 = .ok (.iload 5, 2) := by decide +kernel
theorem d_Mo_writeFrame_372 : decode prog_13_method_41_code 372 = .ok (.iastore, 1) := by decide +kernel
theorem d_Mo_writeFrame_373 : decode prog_13_method_41_code 373 = .ok (.aload_n 0, 1) := by decide +kernel
theorem d_Mo_writeFrame_374 : decode prog_13_method_41_code 374 = .ok (.getfield 173, 3) := by decide +kernel
theorem d_Mo_writeFrame_377 : decode prog_13_method_41_code 377 = .ok (.iload 6, 2) := by decide +kernel
theorem d_Mo_writeFrame_379 : decode prog_13_method_41_code 379 = .ok (.iconst 1, 1) := by decide +kernel
theorem d_Mo_writeFrame_380 : decode prog_13_method_41_code 380 = .ok (.iadd, 1) := by decide +kernel
theorem d_Mo_writeFrame_381 : decode prog_13_method_41_code 381 = .ok (.aload_n 0, 1) := by decide +kernel
theorem d_Mo_writeFrame_382 : decode prog_13_method_41_code 382 = .ok (.getfield 244, 3) := by decide +kernel
theorem d_Mo_writeFrame_385 : decode prog_13_method_41_code 385 = .ok (.ldc2_w 222, 3) := by decide +kernel
theorem d_Mo_writeFrame_388 : decode prog_13_method_41_code 388 = .ok (.ldiv, 1) := by decide +kernel
theorem d_Mo_writeFrame_389 : decode prog_13_method_41_code 389 = .ok (.l2i, 1) := by decide +kernel
theorem d_Mo_writeFrame_390 : decode prog_13_method_41_code 390 = .ok (.iload 5, 2) := by decide +kernel
theorem d_Mo_writeFrame_392 : decode prog_13_method_41_code 392 = .ok (.isub, 1) := by decide +kernel
theorem d_Mo_writeFrame_393 : decode prog_13_method_41_code 393 = .ok (.iastore, 1) := by decide +kernel
theorem d_Mo_writeFrame_394 : decode prog_13_method_41_code 394 = .ok (.aload_n 0, 1) := by decide +kernel
theorem d_Mo_writeFrame_395 : decode prog_13_method_41_code 395 = .ok (.getfield 173, 3) := by decide +kernel
theorem d_Mo_writeFrame_398 : decode prog_13_method_41_code 398 = .ok (.iload 6, 2) := by decide +kernel
theorem d_Mo_writeFrame_400 : decode prog_13_method_41_code 400 = .ok (.iconst 2, 1) := by decide +kernel
theorem d_Mo_writeFrame_401 : decode prog_13_method_41_code 401 = .ok (.iadd, 1) := by decide +kernel
theorem d_Mo_writeFrame_402 : decode prog_13_method_41_code 402 = .ok (.iload 4, 2) := by decide +kernel
theorem d_Mo_writeFrame_404 : decode prog_13_method_41_code 404 = .ok (.iastore, 1) := by decide +kernel
theorem d_Mo_writeFrame_405 : decode prog_13_method_41_code 405 = .ok (.aload_n 0, 1) := by decide +kernel
theorem d_Mo_writeFrame_406 : decode prog_13_method_41_code 406 = .ok (.dup, 1) := by decide +kernel
theorem d_Mo_writeFrame_407 : decode prog_13_method_41_code 407 = .ok (.getfield 331, 3) := by decide +kernel
theorem d_Mo_writeFrame_410 : decode prog_13_method_41_code 410 = .ok (.iconst 1, 1) := by decide +kernel
theorem d_Mo_writeFrame_411 : decode prog_13_method_41_code 411 = .ok (.iadd, 1) := by decide +kernel
theorem d_Mo_writeFrame_412 : decode prog_13_method_41_code 412 = .ok (.putfield 331, 3) := by decide +kernel
theorem d_Mo_writeFrame_415 : decode prog_13_method_41_code 415 = .ok (.return_, 1) := by decide +kernel
theorem d_Mo_encode_0 : decode prog_13_method_42_code 0 = .ok (.aload_n 0, 1) := by decide +kernel
theorem d_Mo_encode_1 : decode prog_13_method_42_code 1 = .ok (.aload_n 0, 1) := by decide +kernel
theorem d_Mo_encode_2 : decode prog_13_method_42_code 2 = .ok (.invokevirtual 234, 3) := by decide +kernel
theorem d_Mo_encode_5 : decode prog_13_method_42_code 5 = .ok (.ifCond .eq 7, 3) := by decide +kernel
theorem d_Mo_encode_8 : decode prog_13_method_42_code 8 = .ok (.iconst 1, 1) := by decide +kernel
theorem d_Mo_encode_9 : decode prog_13_method_42_code 9 = .ok (.goto 4, 3) := by decide +kernel
theorem d_Mo_encode_12 : decode prog_13_method_42_code 12 = .ok (.iconst 0, 1) := by decide +kernel
theorem d_Mo_encode_13 : decode prog_13_method_42_code 13 = .ok (.putfield 197, 3) := by decide +kernel
theorem d_Mo_encode_16 : decode prog_13_method_42_code 16 = .ok (.aload_n 0, 1) := by decide +kernel
theorem d_Mo_encode_17 : decode prog_13_method_42_code 17 = .ok (.getfield 197, 3) := by decide +kernel
theorem d_Mo_encode_20 : decode prog_13_method_42_code 20 = .ok (.ifCond .le 5, 3) := by decide +kernel
theorem d_Mo_encode_23 : decode prog_13_method_42_code 23 = .ok (.iconst 0, 1) := by decide +kernel
theorem d_Mo_encode_24 : decode prog_13_method_42_code 24 = .ok (.ireturn, 1) := by decide +kernel
theorem d_Mo_encode_25 : decode prog_13_method_42_code 25 = .ok (.aload_n 0, 1) := by decide +kernel
theorem d_Mo_encode_26 : decode prog_13_method_42_code 26 = .ok (.iconst 0, 1) := by decide +kernel
theorem d_Mo_encode_27 : decode prog_13_method_42_code 27 = .ok (.putfield 331, 3) := by decide +kernel
theorem d_Mo_encode_30 : decode prog_13_method_42_code 30 = .ok (.aload_n 0, 1) := by decide +kernel
theorem d_Mo_encode_31 : decode prog_13_method_42_code 31 = .ok (.ldc2_w 348, 3) := by decide +kernel
theorem d_Mo_encode_34 : decode prog_13_method_42_code 34 = .ok (.putfield 244, 3) := by decide +kernel
theorem d_Mo_encode_37 : decode prog_13_method_42_code 37 = .ok (.iconst 0, 1) := by decide +kernel
theorem d_Mo_encode_38 : decode prog_13_method_42_code 38 = .ok (.istore_n 2, 1) := by decide +kernel
theorem d_Mo_encode_39 : decode prog_13_method_42_code 39 = .ok (.iload_n 2, 1) := by decide +kernel
theorem d_Mo_encode_40 : decode prog_13_method_42_code 40 = .ok (.aload_n 0, 1) := by decide +kernel
theorem d_Mo_encode_41 : decode prog_13_method_42_code 41 = .ok (.getfield 161, 3) := by decide +kernel
theorem d_Mo_encode_44 : decode prog_13_method_42_code 44 = .ok (.iconst 0, 1) := by decide +kernel
theorem d_Mo_encode_45 : decode prog_13_method_42_code 45 = .ok (.iaload, 1) := by decide +kernel
theorem d_Mo_encode_46 : decode prog_13_method_42_code 46 = .ok (.if_icmp .ge 49, 3) := by decide +kernel
theorem d_Mo_encode_49 : decode prog_13_method_42_code 49 = .ok (.aload_n 0, 1) := by decide +kernel
theorem d_Mo_encode_50 : decode prog_13_method_42_code 50 = .ok (.iload_n 2, 1) := by decide +kernel
theorem d_Mo_encode_51 : decode prog_13_method_42_code 51 = .ok (.aload_n 0, 1) := by decide +kernel
theorem d_Mo_encode_52 : decode prog_13_method_42_code 52 = .ok (.getfield 161, 3) := by decide +kernel
theorem d_Mo_encode_55 : decode prog_13_method_42_code 55 = .ok (.iconst 0, 1) := by decide +kernel
theorem d_Mo_encode_56 : decode prog_13_method_42_code 56 = .ok (.iaload, 1) := by decide +kernel
theorem d_Mo_encode_57 : decode prog_13_method_42_code 57 = .ok (.iload_n 2, 1) := by decide +kernel
theorem d_Mo_encode_58 : decode prog_13_method_42_code 58 = .ok (.isub, 1) := by decide +kernel
theorem d_Mo_encode_59 : decode prog_13_method_42_code 59 = .ok (.aload_n 0, 1) := by decide +kernel
theorem d_Mo_encode_60 : decode prog_13_method_42_code 60 = .ok (.getfield 152, 3) := by decide +kernel
theorem d_Mo_encode_63 : decode prog_13_method_42_code 63 = .ok (.if_icmp .ge 14, 3) := by decide +kernel
theorem d_Mo_encode_66 : decode prog_13_method_42_code 66 = .ok (.aload_n 0, 1) := by decide +kernel
theorem d_Mo_encode_67 : decode prog_13_method_42_code 67 = .ok (.getfield 161, 3) := by decide +kernel
theorem d_Mo_encode_70 : decode prog_13_method_42_code 70 = .ok (.iconst 0, 1) := by decide +kernel
theorem d_Mo_encode_71 : decode prog_13_method_42_code 71 = .ok (.iaload, 1) := by decide +kernel
theorem d_Mo_encode_72 : decode prog_13_method_42_code 72 = .ok (.iload_n 2, 1) := by decide +kernel
theorem d_Mo_encode_73 : decode prog_13_method_42_code 73 = .ok (.isub, 1) := by decide +kernel
theorem d_Mo_encode_74 : decode prog_13_method_42_code 74 = .ok (.goto 7, 3) := by decide +kernel
theorem d_Mo_encode_77 : decode prog_13_method_42_code 77 = .ok (.aload_n 0, 1) := by decide +kernel
theorem d_Mo_encode_78 : decode prog_13_method_42_code 78 = .ok (.getfield 152, 3) := by decide +kernel
theorem d_Mo_encode_81 : decode prog_13_method_42_code 81 = .ok (.iload_n 1, 1) := by decide +kernel
theorem d_Mo_encode_82 : decode prog_13_method_42_code 82 = .ok (.invokevirtual 350, 3) := by decide +kernel
theorem d_Mo_encode_85 : decode prog_13_method_42_code 85 = .ok (.iload_n 2, 1) := by decide +kernel
theorem d_Mo_encode_86 : decode prog_13_method_42_code 86 = .ok (.aload_n 0, 1) := by decide +kernel
theorem d_Mo_encode_87 : decode prog_13_method_42_code 87 = .ok (.getfield 152, 3) := by decide +kernel
theorem d_Mo_encode_90 : decode prog_13_method_42_code 90 = .ok (.iadd, 1) := by decide +kernel
theorem d_Mo_encode_91 : decode prog_13_method_42_code 91 = .ok (.istore_n 2, 1) := by decide +kernel
theorem d_Mo_encode_92 : decode prog_13_method_42_code 92 = .ok (.goto (-53), 3) := by decide +kernel
theorem d_Mo_encode_95 : decode prog_13_method_42_code 95 = .ok (.aload_n 0, 1) := by decide +kernel
theorem d_Mo_encode_96 : decode prog_13_method_42_code 96 = .ok (.aload_n 0, 1) := by decide +kernel
theorem d_Mo_encode_97 : decode prog_13_method_42_code 97 = .ok (.getfield 244, 3) := by decide +kernel
theorem d_Mo_encode_100 : decode prog_13_method_42_code 100 = .ok (.ldc2_w 222, 3) := by decide +kernel
theorem d_Mo_encode_103 : decode prog_13_method_42_code 103 = .ok (.ldiv, 1) := by decide +kernel
theorem d_Mo_encode_104 : decode prog_13_method_42_code 104 = .ok (.l2i, 1) := by decide +kernel
theorem d_Mo_encode_105 : decode prog_13_method_42_code 105 = .ok (.putfield 354, 3) := by decide +kernel
theorem d_Mo_encode_108 : decode prog_13_method_42_code 108 = .ok (.iconst 0, 1) := by decide +kernel
theorem d_Mo_encode_109 : decode prog_13_method_42_code 109 = .ok (.istore_n 2, 1) := by decide +kernel
theorem d_Mo_encode_110 : decode prog_13_method_42_code 110 = .ok (.iconst 0, 1) := by decide +kernel
theorem d_Mo_encode_111 : decode prog_13_method_42_code 111 = .ok (.istore_n 3, 1) := by decide +kernel
theorem d_Mo_encode_112 : decode prog_13_method_42_code 112 = .ok (.iconst 0, 1) := by decide +kernel
theorem d_Mo_encode_113 : decode prog_13_method_42_code 113 = .ok (.istore 4, 2) := by decide +kernel
theorem d_Mo_encode_115 : decode prog_13_method_42_code 115 = .ok (.iload 4, 2) := by decide +kernel
theorem d_Mo_encode_117 : decode prog_13_method_42_code 117 = .ok (.aload_n 0, 1) := by decide +kernel
theorem d_Mo_encode_118 : decode prog_13_method_42_code 118 = .ok (.getfield 331, 3) := by decide +kernel
theorem d_Mo_encode_121 : decode prog_13_method_42_code 121 = .ok (.if_icmp .ge 80, 3) := by decide +kernel
theorem d_Mo_encode_124 : decode prog_13_method_42_code 124 = .ok (.iload 4, 2) := by decide +kernel
theorem d_Mo_encode_126 : decode prog_13_method_42_code 126 = .ok (.ifCond .eq 19, 3) := by decide +kernel
theorem d_Mo_encode_129 : decode prog_13_method_42_code 129 = .ok (.aload_n 0, 1) := by decide +kernel
theorem d_Mo_encode_130 : decode prog_13_method_42_code 130 = .ok (.getfield 173, 3) := by decide +kernel
theorem d_Mo_encode_133 : decode prog_13_method_42_code 133 = .ok (.bipush 9, 2) := by decide +kernel
theorem d_Mo_encode_135 : decode prog_13_method_42_code 135 = .ok (.iload 4, 2) := by decide +kernel
theorem d_Mo_encode_137 : decode prog_13_method_42_code 137 = .ok (.imul, 1) := by decide +kernel
theorem d_Mo_encode_138 : decode prog_13_method_42_code 138 = .ok (.iconst 1, 1) := by decide +kernel
theorem d_Mo_encode_139 : decode prog_13_method_42_code 139 = .ok (.iadd, 1) := by decide +kernel
theorem d_Mo_encode_140 : decode prog_13_method_42_code 140 = .ok (.iaload, 1) := by decide +kernel
theorem d_Mo_encode_141 : decode prog_13_method_42_code 141 = .ok (.iload_n 2, 1) := by decide +kernel
theorem d_Mo_encode_142 : decode prog_13_method_42_code 142 = .ok (.if_icmp .ge 18, 3) := by decide +kernel
theorem d_Mo_encode_145 : decode prog_13_method_42_code 145 = .ok (.aload_n 0, 1) := by decide +kernel
theorem d_Mo_encode_146 : decode prog_13_method_42_code 146 = .ok (.getfield 173, 3) := by decide +kernel
theorem d_Mo_encode_149 : decode prog_13_method_42_code 149 = .ok (.bipush 9, 2) := by decide +kernel
theorem d_Mo_encode_151 : decode prog_13_method_42_code 151 = .ok (.iload 4, 2) := by decide +kernel
theorem d_Mo_encode_153 : decode prog_13_method_42_code 153 = .ok (.imul, 1) := by decide +kernel
theorem d_Mo_encode_154 : decode prog_13_method_42_code 154 = .ok (.iconst 1, 1) := by decide +kernel
theorem d_Mo_encode_155 : decode prog_13_method_42_code 155 = .ok (.iadd, 1) := by decide +kernel
theorem d_Mo_encode_156 : decode prog_13_method_42_code 156 = .ok (.iaload, 1) := by decide +kernel
theorem d_Mo_encode_157 : decode prog_13_method_42_code 157 = .ok (.goto 4, 3) := by decide +kernel
theorem d_Mo_encode_160 : decode prog_13_method_42_code 160 = .ok (.iload_n 2, 1) := by decide +kernel
theorem d_Mo_encode_161 : decode prog_13_method_42_code 161 = .ok (.istore_n 2, 1) := by decide +kernel
theorem d_Mo_encode_162 : decode prog_13_method_42_code 162 = .ok (.aload_n 0, 1) := by decide +kernel
theorem d_Mo_encode_163 : decode prog_13_method_42_code 163 = .ok (.getfield 173, 3) := by decide +kernel
theorem d_Mo_encode_166 : decode prog_13_method_42_code 166 = .ok (.bipush 9, 2) := by decide +kernel
theorem d_Mo_encode_168 : decode prog_13_method_42_code 168 = .ok (.iload 4, 2) := by decide +kernel
theorem d_Mo_encode_170 : decode prog_13_method_42_code 170 = .ok (.imul, 1) := by decide +kernel
theorem d_Mo_encode_171 : decode prog_13_method_42_code 171 = .ok (.iconst 1, 1) := by decide +kernel
theorem d_Mo_encode_172 : decode prog_13_method_42_code 172 = .ok (.iadd, 1) := by decide +kernel
theorem d_Mo_encode_173 : decode prog_13_method_42_code 173 = .ok (.iaload, 1) := by decide +kernel
theorem d_Mo_encode_174 : decode prog_13_method_42_code 174 = .ok (.iload_n 3, 1) := by decide +kernel
theorem d_Mo_encode_175 : decode prog_13_method_42_code 175 = .ok (.if_icmp .le 18, 3) := by decide +kernel
theorem d_Mo_encode_178 : decode prog_13_method_42_code 178 = .ok (.aload_n 0, 1) := by decide +kernel
theorem d_Mo_encode_179 : decode prog_13_method_42_code 179 = .ok (.getfield 173, 3) := by decide +kernel
theorem d_Mo_encode_182 : decode prog_13_method_42_code 182 = .ok (.bipush 9, 2) := by decide +kernel
theorem d_Mo_encode_184 : decode prog_13_method_42_code 184 = .ok (.iload 4, 2) := by decide +kernel
theorem d_Mo_encode_186 : decode prog_13_method_42_code 186 = .ok (.imul, 1) := by decide +kernel
theorem d_Mo_encode_187 : decode prog_13_method_42_code 187 = .ok (.iconst 1, 1) := by decide +kernel
theorem d_Mo_encode_188 : decode prog_13_method_42_code 188 = .ok (.iadd, 1) := by decide +kernel
theorem d_Mo_encode_189 : decode prog_13_method_42_code 189 = .ok (.iaload, 1) := by decide +kernel
theorem d_Mo_encode_190 : decode prog_13_method_42_code 190 = .ok (.goto 4, 3) := by decide +kernel
theorem d_Mo_encode_193 : decode prog_13_method_42_code 193 = .ok (.iload_n 3, 1) := by decide +kernel
theorem d_Mo_encode_194 : decode prog_13_method_42_code 194 = .ok (.istore_n 3, 1) := by decide +kernel
theorem d_Mo_encode_195 : decode prog_13_method_42_code 195 = .ok (.iinc 4 1, 3) := by decide +kernel
theorem d_Mo_encode_198 : decode prog_13_method_42_code 198 = .ok (.goto (-83), 3) := by decide +kernel
theorem d_Mo_encode_201 : decode prog_13_method_42_code 201 = .ok (.aload_n 0, 1) := by decide +kernel
theorem d_Mo_encode_202 : decode prog_13_method_42_code 202 = .ok (.lconst 0, 1) := by decide +kernel
theorem d_Mo_encode_203 : decode prog_13_method_42_code 203 = .ok (.putfield 244, 3) := by decide +kernel
theorem d_Mo_encode_206 : decode prog_13_method_42_code 206 = .ok (.aload_n 0, 1) := by decide +kernel
theorem d_Mo_encode_207 : decode prog_13_method_42_code 207 = .ok (.ldc2_w 357, 3) := by decide +kernel
theorem d_Mo_encode_210 : decode prog_13_method_42_code 210 = .ok (.bipush 32, 2) := by decide +kernel
theorem d_Mo_encode_212 : decode prog_13_method_42_code 212 = .ok (.invokevirtual 306, 3) := by decide +kernel
theorem d_Mo_encode_215 : decode prog_13_method_42_code 215 = .ok (.aload_n 0, 1) := by decide +kernel
theorem d_Mo_encode_216 : decode prog_13_method_42_code 216 = .ok (.ldc2_w 359, 3) := by decide +kernel
theorem d_Mo_encode_219 : decode prog_13_method_42_code 219 = .ok (.bipush 32, 2) := by decide +kernel
theorem d_Mo_encode_221 : decode prog_13_method_42_code 221 = .ok (.invokevirtual 306, 3) := by decide +kernel
theorem d_Mo_encode_224 : decode prog_13_method_42_code 224 = .ok (.aload_n 0, 1) := by decide +kernel
theorem d_Mo_encode_225 : decode prog_13_method_42_code 225 = .ok (.aload_n 0, 1) := by decide +kernel
theorem d_Mo_encode_226 : decode prog_13_method_42_code 226 = .ok (.getfield 152, 3) := by decide +kernel
theorem d_Mo_encode_229 : decode prog_13_method_42_code 229 = .ok (.i2l, 1) := by decide +kernel
theorem d_Mo_encode_230 : decode prog_13_method_42_code 230 = .ok (.bipush 16, 2) := by decide +kernel
theorem d_Mo_encode_232 : decode prog_13_method_42_code 232 = .ok (.invokevirtual 306, 3) := by decide +kernel
theorem d_Mo_encode_235 : decode prog_13_method_42_code 235 = .ok (.aload_n 0, 1) := by decide +kernel
theorem d_Mo_encode_236 : decode prog_13_method_42_code 236 = .ok (.aload_n 0, 1) := by decide +kernel
theorem d_Mo_encode_237 : decode prog_13_method_42_code 237 = .ok (.getfield 152, 3) := by decide +kernel
theorem d_Mo_encode_240 : decode prog_13_method_42_code 240 = .ok (.i2l, 1) := by decide +kernel
theorem d_Mo_encode_241 : decode prog_13_method_42_code 241 = .ok (.bipush 16, 2) := by decide +kernel
theorem d_Mo_encode_243 : decode prog_13_method_42_code 243 = .ok (.invokevirtual 306, 3) := by decide +kernel
theorem d_Mo_encode_246 : decode prog_13_method_42_code 246 = .ok (.aload_n 0, 1) := by decide +kernel
theorem d_Mo_encode_247 : decode prog_13_method_42_code 247 = .ok (.iload_n 2, 1) := by decide +kernel
theorem d_Mo_encode_248 : decode prog_13_method_42_code 248 = .ok (.i2l, 1) := by decide +kernel
theorem d_Mo_encode_249 : decode prog_13_method_42_code 249 = .ok (.bipush 24, 2) := by decide +kernel
theorem d_Mo_encode_251 : decode prog_13_method_42_code 251 = .ok (.invokevirtual 306, 3) := by decide +kernel
theorem d_Mo_encode_254 : decode prog_13_method_42_code 254 = .ok (.aload_n 0, 1) := by decide +kernel
theorem d_Mo_encode_255 : decode prog_13_method_42_code 255 = .ok (.iload_n 3, 1) := by decide +kernel
theorem d_Mo_encode_256 : decode prog_13_method_42_code 256 = .ok (.i2l, 1) := by decide +kernel
theorem d_Mo_encode_257 : decode prog_13_method_42_code 257 = .ok (.bipush 24, 2) := by decide +kernel
theorem d_Mo_encode_259 : decode prog_13_method_42_code 259 = .ok (.invokevirtual 306, 3) := by decide +kernel
theorem d_Mo_encode_262 : decode prog_13_method_42_code 262 = .ok (.aload_n 0, 1) := by decide +kernel
theorem d_Mo_encode_263 : decode prog_13_method_42_code 263 = .ok (.aload_n 0, 1) := by decide +kernel
theorem d_Mo_encode_264 : decode prog_13_method_42_code 264 = .ok (.getfield 155, 3) := by decide +kernel
theorem d_Mo_encode_267 : decode prog_13_method_42_code 267 = .ok (.i2l, 1) := by decide +kernel
theorem d_Mo_encode_268 : decode prog_13_method_42_code 268 = .ok (.bipush 20, 2) := by decide +kernel
theorem d_Mo_encode_270 : decode prog_13_method_42_code 270 = .ok (.invokevirtual 306, 3) := by decide +kernel
theorem d_Mo_encode_273 : decode prog_13_method_42_code 273 = .ok (.aload_n 0, 1) := by decide +kernel
theorem d_Mo_encode_274 : decode prog_13_method_42_code 274 = .ok (.aload_n 0, 1) := by decide +kernel
theorem d_Mo_encode_275 : decode prog_13_method_42_code 275 = .ok (.getfield 145, 3) := by decide +kernel
theorem d_Mo_encode_278 : decode prog_13_method_42_code 278 = .ok (.i2l, 1) := by decide +kernel
theorem d_Mo_encode_279 : decode prog_13_method_42_code 279 = .ok (.lconst 1, 1) := by decide +kernel
theorem d_Mo_encode_280 : decode prog_13_method_42_code 280 = .ok (.lsub, 1) := by decide +kernel
theorem d_Mo_encode_281 : decode prog_13_method_42_code 281 = .ok (.iconst 3, 1) := by decide +kernel
theorem d_Mo_encode_282 : decode prog_13_method_42_code 282 = .ok (.invokevirtual 306, 3) := by decide +kernel
theorem d_Mo_encode_285 : decode prog_13_method_42_code 285 = .ok (.aload_n 0, 1) := by decide +kernel
theorem d_Mo_encode_286 : decode prog_13_method_42_code 286 = .ok (.aload_n 0, 1) := by decide +kernel
theorem d_Mo_encode_287 : decode prog_13_method_42_code 287 = .ok (.getfield 149, 3) := by decide +kernel
theorem d_Mo_encode_290 : decode prog_13_method_42_code 290 = .ok (.i2l, 1) := by decide +kernel
theorem d_Mo_encode_291 : decode prog_13_method_42_code 291 = .ok (.lconst 1, 1) := by decide +kernel
theorem d_Mo_encode_292 : decode prog_13_method_42_code 292 = .ok (.lsub, 1) := by decide +kernel
theorem d_Mo_encode_293 : decode prog_13_method_42_code 293 = .ok (.iconst 5, 1) := by decide +kernel
theorem d_Mo_encode_294 : decode prog_13_method_42_code 294 = .ok (.invokevirtual 306, 3) := by decide +kernel
theorem d_Mo_encode_297 : decode prog_13_method_42_code 297 = .ok (.aload_n 0, 1) := by decide +kernel
theorem d_Mo_encode_298 : decode prog_13_method_42_code 298 = .ok (.aload_n 0, 1) := by decide +kernel
theorem d_Mo_encode_299 : decode prog_13_method_42_code 299 = .ok (.getfield 161, 3) := by decide +kernel
theorem d_Mo_encode_302 : decode prog_13_method_42_code 302 = .ok (.iconst 0, 1) := by decide +kernel
theorem d_Mo_encode_303 : decode prog_13_method_42_code 303 = .ok (.iaload, 1) := by decide +kernel
theorem d_Mo_encode_304 : decode prog_13_method_42_code 304 = .ok (.i2l, 1) := by decide +kernel
theorem d_Mo_encode_305 : decode prog_13_method_42_code 305 = .ok (.bipush 36, 2) := by decide +kernel
theorem d_Mo_encode_307 : decode prog_13_method_42_code 307 = .ok (.invokevirtual 306, 3) := by decide +kernel
theorem d_Mo_encode_310 : decode prog_13_method_42_code 310 = .ok (.aload_n 0, 1) := by decide +kernel
theorem d_Mo_encode_311 : decode prog_13_method_42_code 311 = .ok (.aload_n 0, 1) := by decide +kernel
theorem d_Mo_encode_312 : decode prog_13_method_42_code 312 = .ok (.getfield 158, 3) := by decide +kernel
theorem d_Mo_encode_315 : decode prog_13_method_42_code 315 = .ok (.aload_n 0, 1) := by decide +kernel
theorem d_Mo_encode_316 : decode prog_13_method_42_code 316 = .ok (.getfield 145, 3) := by decide +kernel
theorem d_Mo_encode_319 : decode prog_13_method_42_code 319 = .ok (.aload_n 0, 1) := by decide +kernel
theorem d_Mo_encode_320 : decode prog_13_method_42_code 320 = .ok (.getfield 149, 3) := by decide +kernel
theorem d_Mo_encode_323 : decode prog_13_method_42_code 323 = .ok (.aload_n 0, 1) := by decide +kernel
theorem d_Mo_encode_324 : decode prog_13_method_42_code 324 = .ok (.getfield 161, 3) := by decide +kernel
theorem d_Mo_encode_327 : decode prog_13_method_42_code 327 = .ok (.iconst 0, 1) := by decide +kernel
theorem d_Mo_encode_328 : decode prog_13_method_42_code 328 = .ok (.iaload, 1) := by decide +kernel
theorem d_Mo_encode_329 : decode prog_13_method_42_code 329 = .ok (.invokevirtual 238, 3) := by decide +kernel
theorem d_Mo_encode_332 : decode prog_13_method_42_code 332 = .ok (.iconst 0, 1) := by decide +kernel
theorem d_Mo_encode_333 : decode prog_13_method_42_code 333 = .ok (.istore 4, 2) := by decide +kernel
theorem d_Mo_encode_335 : decode prog_13_method_42_code 335 = .ok (.iload 4, 2) := by decide +kernel
theorem d_Mo_encode_337 : decode prog_13_method_42_code 337 = .ok (.bipush 16, 2) := by decide +kernel
theorem d_Mo_encode_339 : decode prog_13_method_42_code 339 = .ok (.if_icmp .ge 37, 3) := by decide +kernel
theorem d_Mo_encode_342 : decode prog_13_method_42_code 342 = .ok (.aload_n 0, 1) := by decide +kernel
theorem d_Mo_encode_343 : decode prog_13_method_42_code 343 = .ok (.aload_n 0, 1) := by decide +kernel
theorem d_Mo_encode_344 : decode prog_13_method_42_code 344 = .ok (.getfield 167, 3) := by decide +kernel
theorem d_Mo_encode_347 : decode prog_13_method_42_code 347 = .ok (.iload 4, 2) := by decide +kernel
theorem d_Mo_encode_349 : decode prog_13_method_42_code 349 = .ok (.iconst 4, 1) := by decide +kernel
theorem d_Mo_encode_350 : decode prog_13_method_42_code 350 = .ok (.idiv, 1) := by decide +kernel
theorem d_Mo_encode_351 : decode prog_13_method_42_code 351 = .ok (.iaload, 1) := by decide +kernel
theorem d_Mo_encode_352 : decode prog_13_method_42_code 352 = .ok (.bipush 8, 2) := by decide +kernel
theorem d_Mo_encode_354 : decode prog_13_method_42_code 354 = .ok (.iload 4, 2) := by decide +kernel
theorem d_Mo_encode_356 : decode prog_13_method_42_code 356 = .ok (.iconst 4, 1) := by decide +kernel
theorem d_Mo_encode_357 : decode prog_13_method_42_code 357 = .ok (.irem, 1) := by decide +kernel
theorem d_Mo_encode_358 : decode prog_13_method_42_code 358 = .ok (.imul, 1) := by decide +kernel
theorem d_Mo_encode_359 : decode prog_13_method_42_code 359 = .ok (.ishr, 1) := by decide +kernel
theorem d_Mo_encode_360 : decode prog_13_method_42_code 360 = .ok (.sipush 255, 3) := by decide +kernel
theorem d_Mo_encode_363 : decode prog_13_method_42_code 363 = .ok (.iand, 1) := by decide +kernel
theorem d_Mo_encode_364 : decode prog_13_method_42_code 364 = .ok (.i2l, 1) := by decide +kernel
theorem d_Mo_encode_365 : decode prog_13_method_42_code 365 = .ok (.bipush 8, 2) := by decide +kernel
theorem d_Mo_encode_367 : decode prog_13_method_42_code 367 = .ok (.invokevirtual 306, 3) := by decide +kernel
theorem d_Mo_encode_370 : decode prog_13_method_42_code 370 = .ok (.iinc 4 1, 3) := by decide +kernel
theorem d_Mo_encode_373 : decode prog_13_method_42_code 373 = .ok (.goto (-38), 3) := by decide +kernel
theorem d_Mo_encode_376 : decode prog_13_method_42_code 376 = .ok (.aload_n 0, 1) := by decide +kernel
theorem d_Mo_encode_377 : decode prog_13_method_42_code 377 = .ok (.getfield 354, 3) := by decide +kernel
theorem d_Mo_encode_380 : decode prog_13_method_42_code 380 = .ok (.ireturn, 1) := by decide +kernel
theorem d_Mo_told_0 : decode prog_13_method_43_code 0 = .ok (.aload_n 0, 1) := by decide +kernel
theorem d_Mo_told_1 : decode prog_13_method_43_code 1 = .ok (.iload_n 1, 1) := by decide +kernel
theorem d_Mo_told_2 : decode prog_13_method_43_code 2 = .ok (.ifCond .lt 9, 3) := by decide +kernel
theorem d_Mo_told_5 : decode prog_13_method_43_code 5 = .ok (.iload_n 1, 1) := by decide +kernel
theorem d_Mo_told_6 : decode prog_13_method_43_code 6 = .ok (.bipush 8, 2) := by decide +kernel
theorem d_Mo_told_8 : decode prog_13_method_43_code 8 = .ok (.if_icmp .le 7, 3) := by decide +kernel
theorem d_Mo_told_11 : decode prog_13_method_43_code 11 = .ok (.iconst 1, 1) := by decide +kernel
theorem d_Mo_told_12 : decode prog_13_method_43_code 12 = .ok (.goto 4, 3) := by decide +kernel
theorem d_Mo_told_15 : decode prog_13_method_43_code 15 = .ok (.iconst 0, 1) := by decide +kernel
theorem d_Mo_told_16 : decode prog_13_method_43_code 16 = .ok (.putfield 197, 3) := by decide +kernel
theorem d_Mo_told_19 : decode prog_13_method_43_code 19 = .ok (.aload_n 0, 1) := by decide +kernel
theorem d_Mo_told_20 : decode prog_13_method_43_code 20 = .ok (.getfield 197, 3) := by decide +kernel
theorem d_Mo_told_23 : decode prog_13_method_43_code 23 = .ok (.ifCond .gt 8, 3) := by decide +kernel
theorem d_Mo_told_26 : decode prog_13_method_43_code 26 = .ok (.iload_n 1, 1) := by decide +kernel
theorem d_Mo_told_27 : decode prog_13_method_43_code 27 = .ok (.iconst 2, 1) := by decide +kernel
theorem d_Mo_told_28 : decode prog_13_method_43_code 28 = .ok (.if_icmp .ge 30, 3) := by decide +kernel
theorem d_Mo_told_31 : decode prog_13_method_43_code 31 = .ok (.aload_n 0, 1) := by decide +kernel
theorem d_Mo_told_32 : decode prog_13_method_43_code 32 = .ok (.getfield 197, 3) := by decide +kernel
theorem d_Mo_told_35 : decode prog_13_method_43_code 35 = .ok (.ifCond .le 7, 3) := by decide +kernel
theorem d_Mo_told_38 : decode prog_13_method_43_code 38 = .ok (.iconst 0, 1) := by decide +kernel
theorem d_Mo_told_39 : decode prog_13_method_43_code 39 = .ok (.goto 18, 3) := by decide +kernel
theorem d_Mo_told_42 : decode prog_13_method_43_code 42 = .ok (.iload_n 1, 1) := by decide +kernel
theorem d_Mo_told_43 : decode prog_13_method_43_code 43 = .ok (.ifCond .ne 10, 3) := by decide +kernel
theorem d_Mo_told_46 : decode prog_13_method_43_code 46 = .ok (.aload_n 0, 1) := by decide +kernel
theorem d_Mo_told_47 : decode prog_13_method_43_code 47 = .ok (.getfield 354, 3) := by decide +kernel
theorem d_Mo_told_50 : decode prog_13_method_43_code 50 = .ok (.goto 7, 3) := by decide +kernel
theorem d_Mo_told_53 : decode prog_13_method_43_code 53 = .ok (.aload_n 0, 1) := by decide +kernel
theorem d_Mo_told_54 : decode prog_13_method_43_code 54 = .ok (.getfield 331, 3) := by decide +kernel
theorem d_Mo_told_57 : decode prog_13_method_43_code 57 = .ok (.ireturn, 1) := by decide +kernel
theorem d_Mo_told_58 : decode prog_13_method_43_code 58 = .ok (.aload_n 0, 1) := by decide +kernel
theorem d_Mo_told_59 : decode prog_13_method_43_code 59 = .ok (.getfield 361, 3) := by decide +kernel
theorem d_Mo_told_62 : decode prog_13_method_43_code 62 = .ok (.ifCond .ne 5, 3) := by decide +kernel
theorem d_Mo_told_65 : decode prog_13_method_43_code 65 = .ok (.iconst (-1), 1) := by decide +kernel
theorem d_Mo_told_66 : decode prog_13_method_43_code 66 = .ok (.ireturn, 1) := by decide +kernel
theorem d_Mo_told_67 : decode prog_13_method_43_code 67 = .ok (.iload_n 1, 1) := by decide +kernel
theorem d_Mo_told_68 : decode prog_13_method_43_code 68 = .ok (.tableswitch 70 2 7 #[40, 45, 50, 55, 60, 65], 40) := by decide +kernel
theorem d_Mo_told_108 : decode prog_13_method_43_code 108 = .ok (.aload_n 0, 1) := by decide +kernel
theorem d_Mo_told_109 : decode prog_13_method_43_code 109 = .ok (.getfield 365, 3) := by decide +kernel
theorem d_Mo_told_112 : decode prog_13_method_43_code 112 = .ok (.ireturn, 1) := by decide +kernel
theorem d_Mo_told_113 : decode prog_13_method_43_code 113 = .ok (.aload_n 0, 1) := by decide +kernel
theorem d_Mo_told_114 : decode prog_13_method_43_code 114 = .ok (.getfield 368, 3) := by decide +kernel
theorem d_Mo_told_117 : decode prog_13_method_43_code 117 = .ok (.ireturn, 1) := by decide +kernel
theorem d_Mo_told_118 : decode prog_13_method_43_code 118 = .ok (.aload_n 0, 1) := by decide +kernel
theorem d_Mo_told_119 : decode prog_13_method_43_code 119 = .ok (.getfield 371, 3) := by decide +kernel
theorem d_Mo_told_122 : decode prog_13_method_43_code 122 = .ok (.ireturn, 1) := by decide +kernel
theorem d_Mo_told_123 : decode prog_13_method_43_code 123 = .ok (.aload_n 0, 1) := by decide +kernel
theorem d_Mo_told_124 : decode prog_13_method_43_code 124 = .ok (.getfield 374, 3) := by decide +kernel
theorem d_Mo_told_127 : decode prog_13_method_43_code 127 = .ok (.ireturn, 1) := by decide +kernel
theorem d_Mo_told_128 : decode prog_13_method_43_code 128 = .ok (.aload_n 0, 1) := by decide +kernel
theorem d_Mo_told_129 : decode prog_13_method_43_code 129 = .ok (.getfield 377, 3) := by decide +kernel
theorem d_Mo_told_132 : decode prog_13_method_43_code 132 = .ok (.ireturn, 1) := by decide +kernel
theorem d_Mo_told_133 : decode prog_13_method_43_code 133 = .ok (.aload_n 0, 1) := by decide +kernel
theorem d_Mo_told_134 : decode prog_13_method_43_code 134 = .ok (.getfield 380, 3) := by decide +kernel
theorem d_Mo_told_137 : decode prog_13_method_43_code 137 = .ok (.ireturn, 1) := by decide +kernel
theorem d_Mo_told_138 : decode prog_13_method_43_code 138 = .ok (.aload_n 0, 1) := by decide +kernel
theorem d_Mo_told_139 : decode prog_13_method_43_code 139 = .ok (.getfield 383, 3) := by decide +kernel
theorem d_Mo_told_142 : decode prog_13_method_43_code 142 = .ok (.ifCond .eq 7, 3) := by decide +kernel
theorem d_Mo_told_145 : decode prog_13_method_43_code 145 = .ok (.iconst 1, 1) := by decide +kernel
theorem d_Mo_told_146 : decode prog_13_method_43_code 146 = .ok (.goto 4, 3) := by decide +kernel
theorem d_Mo_told_149 : decode prog_13_method_43_code 149 = .ok (.iconst 0, 1) := by decide +kernel
theorem d_Mo_told_150 : decode prog_13_method_43_code 150 = .ok (.ireturn, 1) := by decide +kernel
theorem d_Mo_frame_0 : decode prog_13_method_44_code 0 = .ok (.aload_n 0, 1) := by decide +kernel
theorem d_Mo_frame_1 : decode prog_13_method_44_code 1 = .ok (.iload_n 2, 1) := by decide +kernel
theorem d_Mo_frame_2 : decode prog_13_method_44_code 2 = .ok (.ifCond .lt 9, 3) := by decide +kernel
theorem d_Mo_frame_5 : decode prog_13_method_44_code 5 = .ok (.iload_n 2, 1) := by decide +kernel
theorem d_Mo_frame_6 : decode prog_13_method_44_code 6 = .ok (.bipush 8, 2) := by decide +kernel
theorem d_Mo_frame_8 : decode prog_13_method_44_code 8 = .ok (.if_icmp .le 7, 3) := by decide +kernel
theorem d_Mo_frame_11 : decode prog_13_method_44_code 11 = .ok (.iconst 1, 1) := by decide +kernel
theorem d_Mo_frame_12 : decode prog_13_method_44_code 12 = .ok (.goto 20, 3) := by decide +kernel
theorem d_Mo_frame_15 : decode prog_13_method_44_code 15 = .ok (.iload_n 1, 1) := by decide +kernel
theorem d_Mo_frame_16 : decode prog_13_method_44_code 16 = .ok (.ifCond .lt 11, 3) := by decide +kernel
theorem d_Mo_frame_19 : decode prog_13_method_44_code 19 = .ok (.iload_n 1, 1) := by decide +kernel
theorem d_Mo_frame_20 : decode prog_13_method_44_code 20 = .ok (.aload_n 0, 1) := by decide +kernel
theorem d_Mo_frame_21 : decode prog_13_method_44_code 21 = .ok (.getfield 331, 3) := by decide +kernel
theorem d_Mo_frame_24 : decode prog_13_method_44_code 24 = .ok (.if_icmp .lt 7, 3) := by decide +kernel
theorem d_Mo_frame_27 : decode prog_13_method_44_code 27 = .ok (.iconst 2, 1) := by decide +kernel
theorem d_Mo_frame_28 : decode prog_13_method_44_code 28 = .ok (.goto 4, 3) := by decide +kernel
theorem d_Mo_frame_31 : decode prog_13_method_44_code 31 = .ok (.iconst 0, 1) := by decide +kernel
theorem d_Mo_frame_32 : decode prog_13_method_44_code 32 = .ok (.putfield 197, 3) := by decide +kernel
theorem d_Mo_frame_35 : decode prog_13_method_44_code 35 = .ok (.aload_n 0, 1) := by decide +kernel
theorem d_Mo_frame_36 : decode prog_13_method_44_code 36 = .ok (.getfield 197, 3) := by decide +kernel
theorem d_Mo_frame_39 : decode prog_13_method_44_code 39 = .ok (.ifCond .le 7, 3) := by decide +kernel
theorem d_Mo_frame_42 : decode prog_13_method_44_code 42 = .ok (.iconst 0, 1) := by decide +kernel
theorem d_Mo_frame_43 : decode prog_13_method_44_code 43 = .ok (.goto 14, 3) := by decide +kernel
theorem d_Mo_frame_46 : decode prog_13_method_44_code 46 = .ok (.aload_n 0, 1) := by decide +kernel
theorem d_Mo_frame_47 : decode prog_13_method_44_code 47 = .ok (.getfield 173, 3) := by decide +kernel
theorem d_Mo_frame_50 : decode prog_13_method_44_code 50 = .ok (.bipush 9, 2) := by decide +kernel
theorem d_Mo_frame_52 : decode prog_13_method_44_code 52 = .ok (.iload_n 1, 1) := by decide +kernel
theorem d_Mo_frame_53 : decode prog_13_method_44_code 53 = .ok (.imul, 1) := by decide +kernel
theorem d_Mo_frame_54 : decode prog_13_method_44_code 54 = .ok (.iload_n 2, 1) := by decide +kernel
theorem d_Mo_frame_55 : decode prog_13_method_44_code 55 = .ok (.iadd, 1) := by decide +kernel
theorem d_Mo_frame_56 : decode prog_13_method_44_code 56 = .ok (.iaload, 1) := by decide +kernel
theorem d_Mo_frame_57 : decode prog_13_method_44_code 57 = .ok (.ireturn, 1) := by decide +kernel
theorem d_Mo_stream_0 : decode prog_13_method_45_code 0 = .ok (.aload_n 0, 1) := by decide +kernel
theorem d_Mo_stream_1 : decode prog_13_method_45_code 1 = .ok (.iconst 0, 1) := by decide +kernel
theorem d_Mo_stream_2 : decode prog_13_method_45_code 2 = .ok (.putfield 197, 3) := by decide +kernel
theorem d_Mo_stream_5 : decode prog_13_method_45_code 5 = .ok (.lconst 0, 1) := by decide +kernel
theorem d_Mo_stream_6 : decode prog_13_method_45_code 6 = .ok (.lstore_n 2, 1) := by decide +kernel
theorem d_Mo_stream_7 : decode prog_13_method_45_code 7 = .ok (.iconst 0, 1) := by decide +kernel
theorem d_Mo_stream_8 : decode prog_13_method_45_code 8 = .ok (.istore 4, 2) := by decide +kernel
theorem d_Mo_stream_10 : decode prog_13_method_45_code 10 = .ok (.iload 4, 2) := by decide +kernel
theorem d_Mo_stream_12 : decode prog_13_method_45_code 12 = .ok (.bipush 8, 2) := by decide +kernel
theorem d_Mo_stream_14 : decode prog_13_method_45_code 14 = .ok (.if_icmp .ge 57, 3) := by decide +kernel
theorem d_Mo_stream_17 : decode prog_13_method_45_code 17 = .ok (.iload_n 1, 1) := by decide +kernel
theorem d_Mo_stream_18 : decode prog_13_method_45_code 18 = .ok (.i2l, 1) := by decide +kernel
theorem d_Mo_stream_19 : decode prog_13_method_45_code 19 = .ok (.iload 4, 2) := by decide +kernel
theorem d_Mo_stream_21 : decode prog_13_method_45_code 21 = .ok (.i2l, 1) := by decide +kernel
theorem d_Mo_stream_22 : decode prog_13_method_45_code 22 = .ok (.ladd, 1) := by decide +kernel
theorem d_Mo_stream_23 : decode prog_13_method_45_code 23 = .ok (.lstore 5, 2) := by decide +kernel
theorem d_Mo_stream_25 : decode prog_13_method_45_code 25 = .ok (.lload 5, 2) := by decide +kernel
theorem d_Mo_stream_27 : decode prog_13_method_45_code 27 = .ok (.lconst 0, 1) := by decide +kernel
theorem d_Mo_stream_28 : decode prog_13_method_45_code 28 = .ok (.lcmp, 1) := by decide +kernel
theorem d_Mo_stream_29 : decode prog_13_method_45_code 29 = .ok (.ifCond .lt 34, 3) := by decide +kernel
theorem d_Mo_stream_32 : decode prog_13_method_45_code 32 = .ok (.lload 5, 2) := by decide +kernel
theorem d_Mo_stream_34 : decode prog_13_method_45_code 34 = .ok (.aload_n 0, 1) := by decide +kernel
theorem d_Mo_stream_35 : decode prog_13_method_45_code 35 = .ok (.getfield 354, 3) := by decide +kernel
theorem d_Mo_stream_38 : decode prog_13_method_45_code 38 = .ok (.i2l, 1) := by decide +kernel
theorem d_Mo_stream_39 : decode prog_13_method_45_code 39 = .ok (.lcmp, 1) := by decide +kernel
theorem d_Mo_stream_40 : decode prog_13_method_45_code 40 = .ok (.ifCond .ge 23, 3) := by decide +kernel
theorem d_Mo_stream_43 : decode prog_13_method_45_code 43 = .ok (.lload_n 2, 1) := by decide +kernel
theorem d_Mo_stream_44 : decode prog_13_method_45_code 44 = .ok (.aload_n 0, 1) := by decide +kernel
theorem d_Mo_stream_45 : decode prog_13_method_45_code 45 = .ok (.getfield 170, 3) := by decide +kernel
theorem d_Mo_stream_48 : decode prog_13_method_45_code 48 = .ok (.lload 5, 2) := by decide +kernel
theorem d_Mo_stream_50 : decode prog_13_method_45_code 50 = .ok (.l2i, 1) := by decide +kernel
theorem d_Mo_stream_51 : decode prog_13_method_45_code 51 = .ok (.iaload, 1) := by decide +kernel
theorem d_Mo_stream_52 : decode prog_13_method_45_code 52 = .ok (.i2l, 1) := by decide +kernel
theorem d_Mo_stream_53 : decode prog_13_method_45_code 53 = .ok (.bipush 8, 2) := by decide +kernel
theorem d_Mo_stream_55 : decode prog_13_method_45_code 55 = .ok (.iload 4, 2) := by decide +kernel
theorem d_Mo_stream_57 : decode prog_13_method_45_code 57 = .ok (.imul, 1) := by decide +kernel
theorem d_Mo_stream_58 : decode prog_13_method_45_code 58 = .ok (.lshl, 1) := by decide +kernel
theorem d_Mo_stream_59 : decode prog_13_method_45_code 59 = .ok (.lor, 1) := by decide +kernel
theorem d_Mo_stream_60 : decode prog_13_method_45_code 60 = .ok (.goto 4, 3) := by decide +kernel
theorem d_Mo_stream_63 : decode prog_13_method_45_code 63 = .ok (.lload_n 2, 1) := by decide +kernel
theorem d_Mo_stream_64 : decode prog_13_method_45_code 64 = .ok (.lstore_n 2, 1) := by decide +kernel
theorem d_Mo_stream_65 : decode prog_13_method_45_code 65 = .ok (.iinc 4 1, 3) := by decide +kernel
theorem d_Mo_stream_68 : decode prog_13_method_45_code 68 = .ok (.goto (-58), 3) := by decide +kernel
theorem d_Mo_stream_71 : decode prog_13_method_45_code 71 = .ok (.lload_n 2, 1) := by decide +kernel
theorem d_Mo_stream_72 : decode prog_13_method_45_code 72 = .ok (.lreturn, 1) := by decide +kernel
theorem d_Mo_feed_0 : decode prog_13_method_46_code 0 = .ok (.aload_n 0, 1) := by decide +kernel
theorem d_Mo_feed_1 : decode prog_13_method_46_code 1 = .ok (.iload_n 1, 1) := by decide +kernel
theorem d_Mo_feed_2 : decode prog_13_method_46_code 2 = .ok (.iconst 1, 1) := by decide +kernel
theorem d_Mo_feed_3 : decode prog_13_method_46_code 3 = .ok (.if_icmp .lt 9, 3) := by decide +kernel
theorem d_Mo_feed_6 : decode prog_13_method_46_code 6 = .ok (.iload_n 1, 1) := by decide +kernel
theorem d_Mo_feed_7 : decode prog_13_method_46_code 7 = .ok (.bipush 8, 2) := by decide +kernel
theorem d_Mo_feed_9 : decode prog_13_method_46_code 9 = .ok (.if_icmp .le 7, 3) := by decide +kernel
theorem d_Mo_feed_12 : decode prog_13_method_46_code 12 = .ok (.iconst 1, 1) := by decide +kernel
theorem d_Mo_feed_13 : decode prog_13_method_46_code 13 = .ok (.goto 4, 3) := by decide +kernel
theorem d_Mo_feed_16 : decode prog_13_method_46_code 16 = .ok (.iconst 0, 1) := by decide +kernel
theorem d_Mo_feed_17 : decode prog_13_method_46_code 17 = .ok (.putfield 197, 3) := by decide +kernel
theorem d_Mo_feed_20 : decode prog_13_method_46_code 20 = .ok (.aload_n 0, 1) := by decide +kernel
theorem d_Mo_feed_21 : decode prog_13_method_46_code 21 = .ok (.getfield 197, 3) := by decide +kernel
theorem d_Mo_feed_24 : decode prog_13_method_46_code 24 = .ok (.ifCond .le 5, 3) := by decide +kernel
theorem d_Mo_feed_27 : decode prog_13_method_46_code 27 = .ok (.iconst 0, 1) := by decide +kernel
theorem d_Mo_feed_28 : decode prog_13_method_46_code 28 = .ok (.ireturn, 1) := by decide +kernel
theorem d_Mo_feed_29 : decode prog_13_method_46_code 29 = .ok (.aload_n 0, 1) := by decide +kernel
theorem d_Mo_feed_30 : decode prog_13_method_46_code 30 = .ok (.getfield 354, 3) := by decide +kernel
theorem d_Mo_feed_33 : decode prog_13_method_46_code 33 = .ok (.iload_n 1, 1) := by decide +kernel
theorem d_Mo_feed_34 : decode prog_13_method_46_code 34 = .ok (.iadd, 1) := by decide +kernel
theorem d_Mo_feed_35 : decode prog_13_method_46_code 35 = .ok (.sipush 9000, 3) := by decide +kernel
theorem d_Mo_feed_38 : decode prog_13_method_46_code 38 = .ok (.if_icmp .le 5, 3) := by decide +kernel
theorem d_Mo_feed_41 : decode prog_13_method_46_code 41 = .ok (.iconst (-1), 1) := by decide +kernel
theorem d_Mo_feed_42 : decode prog_13_method_46_code 42 = .ok (.ireturn, 1) := by decide +kernel
theorem d_Mo_feed_43 : decode prog_13_method_46_code 43 = .ok (.iconst 0, 1) := by decide +kernel
theorem d_Mo_feed_44 : decode prog_13_method_46_code 44 = .ok (.istore 4, 2) := by decide +kernel
theorem d_Mo_feed_46 : decode prog_13_method_46_code 46 = .ok (.iload 4, 2) := by decide +kernel
theorem d_Mo_feed_48 : decode prog_13_method_46_code 48 = .ok (.iload_n 1, 1) := by decide +kernel
theorem d_Mo_feed_49 : decode prog_13_method_46_code 49 = .ok (.if_icmp .ge 40, 3) := by decide +kernel
theorem d_Mo_feed_52 : decode prog_13_method_46_code 52 = .ok (.aload_n 0, 1) := by decide +kernel
theorem d_Mo_feed_53 : decode prog_13_method_46_code 53 = .ok (.getfield 170, 3) := by decide +kernel
theorem d_Mo_feed_56 : decode prog_13_method_46_code 56 = .ok (.aload_n 0, 1) := by decide +kernel
theorem d_Mo_feed_57 : decode prog_13_method_46_code 57 = .ok (.getfield 354, 3) := by decide +kernel
theorem d_Mo_feed_60 : decode prog_13_method_46_code 60 = .ok (.lload_n 2, 1) := by decide +kernel
theorem d_Mo_feed_61 : decode prog_13_method_46_code 61 = .ok (.bipush 8, 2) := by decide +kernel
theorem d_Mo_feed_63 : decode prog_13_method_46_code 63 = .ok (.iload 4, 2) := by decide +kernel
theorem d_Mo_feed_65 : decode prog_13_method_46_code 65 = .ok (.imul, 1) := by decide +kernel
theorem d_Mo_feed_66 : decode prog_13_method_46_code 66 = .ok (.lshr, 1) := by decide +kernel
theorem d_Mo_feed_67 : decode prog_13_method_46_code 67 = .ok (.ldc2_w 224, 3) := by decide +kernel
theorem d_Mo_feed_70 : decode prog_13_method_46_code 70 = .ok (.land, 1) := by decide +kernel
theorem d_Mo_feed_71 : decode prog_13_method_46_code 71 = .ok (.l2i, 1) := by decide +kernel
theorem d_Mo_feed_72 : decode prog_13_method_46_code 72 = .ok (.iastore, 1) := by decide +kernel
theorem d_Mo_feed_73 : decode prog_13_method_46_code 73 = .ok (.aload_n 0, 1) := by decide +kernel
theorem d_Mo_feed_74 : decode prog_13_method_46_code 74 = .ok (.dup, 1) := by decide +kernel
theorem d_Mo_feed_75 : decode prog_13_method_46_code 75 = .ok (.getfield 354, 3) := by decide +kernel
theorem d_Mo_feed_78 : decode prog_13_method_46_code 78 = .ok (.iconst 1, 1) := by decide +kernel
theorem d_Mo_feed_79 : decode prog_13_method_46_code 79 = .ok (.iadd, 1) := by decide +kernel
theorem d_Mo_feed_80 : decode prog_13_method_46_code 80 = .ok (.putfield 354, 3) := by decide +kernel
theorem d_Mo_feed_83 : decode prog_13_method_46_code 83 = .ok (.iinc 4 1, 3) := by decide +kernel
theorem d_Mo_feed_86 : decode prog_13_method_46_code 86 = .ok (.goto (-40), 3) := by decide +kernel
theorem d_Mo_feed_89 : decode prog_13_method_46_code 89 = .ok (.aload_n 0, 1) := by decide +kernel
theorem d_Mo_feed_90 : decode prog_13_method_46_code 90 = .ok (.getfield 354, 3) := by decide +kernel
theorem d_Mo_feed_93 : decode prog_13_method_46_code 93 = .ok (.ireturn, 1) := by decide +kernel
theorem d_Mo_cut_0 : decode prog_13_method_47_code 0 = .ok (.aload_n 0, 1) := by decide +kernel
theorem d_Mo_cut_1 : decode prog_13_method_47_code 1 = .ok (.iload_n 1, 1) := by decide +kernel
theorem d_Mo_cut_2 : decode prog_13_method_47_code 2 = .ok (.ifCond .lt 11, 3) := by decide +kernel
theorem d_Mo_cut_5 : decode prog_13_method_47_code 5 = .ok (.iload_n 1, 1) := by decide +kernel
theorem d_Mo_cut_6 : decode prog_13_method_47_code 6 = .ok (.aload_n 0, 1) := by decide +kernel
theorem d_Mo_cut_7 : decode prog_13_method_47_code 7 = .ok (.getfield 354, 3) := by decide +kernel
theorem d_Mo_cut_10 : decode prog_13_method_47_code 10 = .ok (.if_icmp .le 7, 3) := by decide +kernel
theorem d_Mo_cut_13 : decode prog_13_method_47_code 13 = .ok (.iconst 1, 1) := by decide +kernel
theorem d_Mo_cut_14 : decode prog_13_method_47_code 14 = .ok (.goto 4, 3) := by decide +kernel
theorem d_Mo_cut_17 : decode prog_13_method_47_code 17 = .ok (.iconst 0, 1) := by decide +kernel
theorem d_Mo_cut_18 : decode prog_13_method_47_code 18 = .ok (.putfield 197, 3) := by decide +kernel
theorem d_Mo_cut_21 : decode prog_13_method_47_code 21 = .ok (.aload_n 0, 1) := by decide +kernel
theorem d_Mo_cut_22 : decode prog_13_method_47_code 22 = .ok (.getfield 197, 3) := by decide +kernel
theorem d_Mo_cut_25 : decode prog_13_method_47_code 25 = .ok (.ifCond .le 5, 3) := by decide +kernel
theorem d_Mo_cut_28 : decode prog_13_method_47_code 28 = .ok (.iconst 0, 1) := by decide +kernel
theorem d_Mo_cut_29 : decode prog_13_method_47_code 29 = .ok (.ireturn, 1) := by decide +kernel
theorem d_Mo_cut_30 : decode prog_13_method_47_code 30 = .ok (.aload_n 0, 1) := by decide +kernel
theorem d_Mo_cut_31 : decode prog_13_method_47_code 31 = .ok (.getfield 354, 3) := by decide +kernel
theorem d_Mo_cut_34 : decode prog_13_method_47_code 34 = .ok (.istore_n 2, 1) := by decide +kernel
theorem d_Mo_cut_35 : decode prog_13_method_47_code 35 = .ok (.aload_n 0, 1) := by decide +kernel
theorem d_Mo_cut_36 : decode prog_13_method_47_code 36 = .ok (.iload_n 1, 1) := by decide +kernel
theorem d_Mo_cut_37 : decode prog_13_method_47_code 37 = .ok (.putfield 354, 3) := by decide +kernel
theorem d_Mo_cut_40 : decode prog_13_method_47_code 40 = .ok (.iload_n 2, 1) := by decide +kernel
theorem d_Mo_cut_41 : decode prog_13_method_47_code 41 = .ok (.ireturn, 1) := by decide +kernel
theorem d_Mo_spoil_0 : decode prog_13_method_48_code 0 = .ok (.aload_n 0, 1) := by decide +kernel
theorem d_Mo_spoil_1 : decode prog_13_method_48_code 1 = .ok (.iload_n 1, 1) := by decide +kernel
theorem d_Mo_spoil_2 : decode prog_13_method_48_code 2 = .ok (.ifCond .lt 11, 3) := by decide +kernel
theorem d_Mo_spoil_5 : decode prog_13_method_48_code 5 = .ok (.iload_n 1, 1) := by decide +kernel
theorem d_Mo_spoil_6 : decode prog_13_method_48_code 6 = .ok (.aload_n 0, 1) := by decide +kernel
theorem d_Mo_spoil_7 : decode prog_13_method_48_code 7 = .ok (.getfield 354, 3) := by decide +kernel
theorem d_Mo_spoil_10 : decode prog_13_method_48_code 10 = .ok (.if_icmp .lt 7, 3) := by decide +kernel
theorem d_Mo_spoil_13 : decode prog_13_method_48_code 13 = .ok (.iconst 1, 1) := by decide +kernel
theorem d_Mo_spoil_14 : decode prog_13_method_48_code 14 = .ok (.goto 19, 3) := by decide +kernel
theorem d_Mo_spoil_17 : decode prog_13_method_48_code 17 = .ok (.iload_n 2, 1) := by decide +kernel
theorem d_Mo_spoil_18 : decode prog_13_method_48_code 18 = .ok (.ifCond .lt 10, 3) := by decide +kernel
theorem d_Mo_spoil_21 : decode prog_13_method_48_code 21 = .ok (.iload_n 2, 1) := by decide +kernel
theorem d_Mo_spoil_22 : decode prog_13_method_48_code 22 = .ok (.sipush 255, 3) := by decide +kernel
theorem d_Mo_spoil_25 : decode prog_13_method_48_code 25 = .ok (.if_icmp .le 7, 3) := by decide +kernel
theorem d_Mo_spoil_28 : decode prog_13_method_48_code 28 = .ok (.iconst 2, 1) := by decide +kernel
theorem d_Mo_spoil_29 : decode prog_13_method_48_code 29 = .ok (.goto 4, 3) := by decide +kernel
theorem d_Mo_spoil_32 : decode prog_13_method_48_code 32 = .ok (.iconst 0, 1) := by decide +kernel
theorem d_Mo_spoil_33 : decode prog_13_method_48_code 33 = .ok (.putfield 197, 3) := by decide +kernel
theorem d_Mo_spoil_36 : decode prog_13_method_48_code 36 = .ok (.aload_n 0, 1) := by decide +kernel
theorem d_Mo_spoil_37 : decode prog_13_method_48_code 37 = .ok (.getfield 197, 3) := by decide +kernel
theorem d_Mo_spoil_40 : decode prog_13_method_48_code 40 = .ok (.ifCond .le 5, 3) := by decide +kernel
theorem d_Mo_spoil_43 : decode prog_13_method_48_code 43 = .ok (.iconst 0, 1) := by decide +kernel
theorem d_Mo_spoil_44 : decode prog_13_method_48_code 44 = .ok (.ireturn, 1) := by decide +kernel
theorem d_Mo_spoil_45 : decode prog_13_method_48_code 45 = .ok (.aload_n 0, 1) := by decide +kernel
theorem d_Mo_spoil_46 : decode prog_13_method_48_code 46 = .ok (.getfield 170, 3) := by decide +kernel
theorem d_Mo_spoil_49 : decode prog_13_method_48_code 49 = .ok (.iload_n 1, 1) := by decide +kernel
theorem d_Mo_spoil_50 : decode prog_13_method_48_code 50 = .ok (.iaload, 1) := by decide +kernel
theorem d_Mo_spoil_51 : decode prog_13_method_48_code 51 = .ok (.istore_n 3, 1) := by decide +kernel
theorem d_Mo_spoil_52 : decode prog_13_method_48_code 52 = .ok (.aload_n 0, 1) := by decide +kernel
theorem d_Mo_spoil_53 : decode prog_13_method_48_code 53 = .ok (.getfield 170, 3) := by decide +kernel
theorem d_Mo_spoil_56 : decode prog_13_method_48_code 56 = .ok (.iload_n 1, 1) := by decide +kernel
theorem d_Mo_spoil_57 : decode prog_13_method_48_code 57 = .ok (.iload_n 2, 1) := by decide +kernel
theorem d_Mo_spoil_58 : decode prog_13_method_48_code 58 = .ok (.iastore, 1) := by decide +kernel
theorem d_Mo_spoil_59 : decode prog_13_method_48_code 59 = .ok (.iload_n 3, 1) := by decide +kernel
theorem d_Mo_spoil_60 : decode prog_13_method_48_code 60 = .ok (.ireturn, 1) := by decide +kernel
theorem d_Mo_seal_0 : decode prog_13_method_49_code 0 = .ok (.aload_n 0, 1) := by decide +kernel
theorem d_Mo_seal_1 : decode prog_13_method_49_code 1 = .ok (.iload_n 1, 1) := by decide +kernel
theorem d_Mo_seal_2 : decode prog_13_method_49_code 2 = .ok (.bipush 8, 2) := by decide +kernel
theorem d_Mo_seal_4 : decode prog_13_method_49_code 4 = .ok (.if_icmp .eq 13, 3) := by decide +kernel
theorem d_Mo_seal_7 : decode prog_13_method_49_code 7 = .ok (.iload_n 1, 1) := by decide +kernel
theorem d_Mo_seal_8 : decode prog_13_method_49_code 8 = .ok (.bipush 16, 2) := by decide +kernel
theorem d_Mo_seal_10 : decode prog_13_method_49_code 10 = .ok (.if_icmp .eq 7, 3) := by decide +kernel
theorem d_Mo_seal_13 : decode prog_13_method_49_code 13 = .ok (.iconst 1, 1) := by decide +kernel
theorem d_Mo_seal_14 : decode prog_13_method_49_code 14 = .ok (.goto 30, 3) := by decide +kernel
theorem d_Mo_seal_17 : decode prog_13_method_49_code 17 = .ok (.iload_n 2, 1) := by decide +kernel
theorem d_Mo_seal_18 : decode prog_13_method_49_code 18 = .ok (.ifCond .lt 21, 3) := by decide +kernel
theorem d_Mo_seal_21 : decode prog_13_method_49_code 21 = .ok (.iload_n 2, 1) := by decide +kernel
theorem d_Mo_seal_22 : decode prog_13_method_49_code 22 = .ok (.iload_n 3, 1) := by decide +kernel
theorem d_Mo_seal_23 : decode prog_13_method_49_code 23 = .ok (.if_icmp .gt 16, 3) := by decide +kernel
theorem d_Mo_seal_26 : decode prog_13_method_49_code 26 = .ok (.iload_n 3, 1) := by decide +kernel
theorem d_Mo_seal_27 : decode prog_13_method_49_code 27 = .ok (.aload_n 0, 1) := by decide +kernel
theorem d_Mo_seal_28 : decode prog_13_method_49_code 28 = .ok (.getfield 354, 3) := by decide +kernel
theorem d_Mo_seal_31 : decode prog_13_method_49_code 31 = .ok (.iload_n 1, 1) := by decide +kernel
theorem d_Mo_seal_32 : decode prog_13_method_49_code 32 = .ok (.bipush 8, 2) := by decide +kernel
theorem d_Mo_seal_34 : decode prog_13_method_49_code 34 = .ok (.idiv, 1) := by decide +kernel
theorem d_Mo_seal_35 : decode prog_13_method_49_code 35 = .ok (.isub, 1) := by decide +kernel
theorem d_Mo_seal_36 : decode prog_13_method_49_code 36 = .ok (.if_icmp .le 7, 3) := by decide +kernel
theorem d_Mo_seal_39 : decode prog_13_method_49_code 39 = .ok (.iconst 2, 1) := by decide +kernel
theorem d_Mo_seal_40 : decode prog_13_method_49_code 40 = .ok (.goto 4, 3) := by decide +kernel
theorem d_Mo_seal_43 : decode prog_13_method_49_code 43 = .ok (.iconst 0, 1) := by decide +kernel
theorem d_Mo_seal_44 : decode prog_13_method_49_code 44 = .ok (.putfield 197, 3) := by decide +kernel
theorem d_Mo_seal_47 : decode prog_13_method_49_code 47 = .ok (.aload_n 0, 1) := by decide +kernel
theorem d_Mo_seal_48 : decode prog_13_method_49_code 48 = .ok (.getfield 197, 3) := by decide +kernel
theorem d_Mo_seal_51 : decode prog_13_method_49_code 51 = .ok (.ifCond .le 4, 3) := by decide +kernel
theorem d_Mo_seal_54 : decode prog_13_method_49_code 54 = .ok (.return_, 1) := by decide +kernel
theorem d_Mo_seal_55 : decode prog_13_method_49_code 55 = .ok (.aload_n 0, 1) := by decide +kernel
theorem d_Mo_seal_56 : decode prog_13_method_49_code 56 = .ok (.iload_n 1, 1) := by decide +kernel
theorem d_Mo_seal_57 : decode prog_13_method_49_code 57 = .ok (.iload_n 2, 1) := by decide +kernel
theorem d_Mo_seal_58 : decode prog_13_method_49_code 58 = .ok (.iload_n 3, 1) := by decide +kernel
theorem d_Mo_seal_59 : decode prog_13_method_49_code 59 = .ok (.invokevirtual 341, 3) := by decide +kernel
theorem d_Mo_seal_62 : decode prog_13_method_49_code 62 = .ok (.istore 4, 2) := by decide +kernel
theorem d_Mo_seal_64 : decode prog_13_method_49_code 64 = .ok (.iload_n 1, 1) := by decide +kernel
theorem d_Mo_seal_65 : decode prog_13_method_49_code 65 = .ok (.bipush 16, 2) := by decide +kernel
theorem d_Mo_seal_67 : decode prog_13_method_49_code 67 = .ok (.if_icmp .ne 31, 3) := by decide +kernel
theorem d_Mo_seal_70 : decode prog_13_method_49_code 70 = .ok (.aload_n 0, 1) := by decide +kernel
theorem d_Mo_seal_71 : decode prog_13_method_49_code 71 = .ok (.getfield 170, 3) := by decide +kernel
theorem d_Mo_seal_74 : decode prog_13_method_49_code 74 = .ok (.iload_n 3, 1) := by decide +kernel
theorem d_Mo_seal_75 : decode prog_13_method_49_code 75 = .ok (.iload 4, 2) := by decide +kernel
theorem d_Mo_seal_77 : decode prog_13_method_49_code 77 = .ok (.bipush 8, 2) := by decide +kernel
theorem d_Mo_seal_79 : decode prog_13_method_49_code 79 = .ok (.ishr, 1) := by decide +kernel
theorem d_Mo_seal_80 : decode prog_13_method_49_code 80 = .ok (.iastore, 1) := by decide +kernel
theorem d_Mo_seal_81 : decode prog_13_method_49_code 81 = .ok (.aload_n 0, 1) := by decide +kernel
theorem d_Mo_seal_82 : decode prog_13_method_49_code 82 = .ok (.getfield 170, 3) := by decide +kernel
theorem d_Mo_seal_85 : decode prog_13_method_49_code 85 = .ok (.iload_n 3, 1) := by decide +kernel
theorem d_Mo_seal_86 : decode prog_13_method_49_code 86 = .ok (.iconst 1, 1) := by decide +kernel
theorem d_Mo_seal_87 : decode prog_13_method_49_code 87 = .ok (.iadd, 1) := by decide +kernel
theorem d_Mo_seal_88 : decode prog_13_method_49_code 88 = .ok (.iload 4, 2) := by decide +kernel
theorem d_Mo_seal_90 : decode prog_13_method_49_code 90 = .ok (.sipush 255, 3) := by decide +kernel
theorem d_Mo_seal_93 : decode prog_13_method_49_code 93 = .ok (.iand, 1) := by decide +kernel
theorem d_Mo_seal_94 : decode prog_13_method_49_code 94 = .ok (.iastore, 1) := by decide +kernel
theorem d_Mo_seal_95 : decode prog_13_method_49_code 95 = .ok (.goto 11, 3) := by decide +kernel
theorem d_Mo_seal_98 : decode prog_13_method_49_code 98 = .ok (.aload_n 0, 1) := by decide +kernel
theorem d_Mo_seal_99 : decode prog_13_method_49_code 99 = .ok (.getfield 170, 3) := by decide +kernel
theorem d_Mo_seal_102 : decode prog_13_method_49_code 102 = .ok (.iload_n 3, 1) := by decide +kernel
theorem d_Mo_seal_103 : decode prog_13_method_49_code 103 = .ok (.iload 4, 2) := by decide +kernel
theorem d_Mo_seal_105 : decode prog_13_method_49_code 105 = .ok (.iastore, 1) := by decide +kernel
theorem d_Mo_seal_106 : decode prog_13_method_49_code 106 = .ok (.return_, 1) := by decide +kernel
theorem d_Mo_fail_0 : decode prog_13_method_50_code 0 = .ok (.aload_n 0, 1) := by decide +kernel
theorem d_Mo_fail_1 : decode prog_13_method_50_code 1 = .ok (.aload_n 0, 1) := by decide +kernel
theorem d_Mo_fail_2 : decode prog_13_method_50_code 2 = .ok (.getfield 386, 3) := by decide +kernel
theorem d_Mo_fail_5 : decode prog_13_method_50_code 5 = .ok (.ifCond .ne 7, 3) := by decide +kernel
theorem d_Mo_fail_8 : decode prog_13_method_50_code 8 = .ok (.iload_n 1, 1) := by decide +kernel
theorem d_Mo_fail_9 : decode prog_13_method_50_code 9 = .ok (.goto 7, 3) := by decide +kernel
theorem d_Mo_fail_12 : decode prog_13_method_50_code 12 = .ok (.aload_n 0, 1) := by decide +kernel
theorem d_Mo_fail_13 : decode prog_13_method_50_code 13 = .ok (.getfield 386, 3) := by decide +kernel
theorem d_Mo_fail_16 : decode prog_13_method_50_code 16 = .ok (.putfield 386, 3) := by decide +kernel
theorem d_Mo_fail_19 : decode prog_13_method_50_code 19 = .ok (.return_, 1) := by decide +kernel
theorem d_Mo_next_0 : decode prog_13_method_51_code 0 = .ok (.aload_n 0, 1) := by decide +kernel
theorem d_Mo_next_1 : decode prog_13_method_51_code 1 = .ok (.getfield 386, 3) := by decide +kernel
theorem d_Mo_next_4 : decode prog_13_method_51_code 4 = .ok (.ifCond .gt 23, 3) := by decide +kernel
theorem d_Mo_next_7 : decode prog_13_method_51_code 7 = .ok (.aload_n 0, 1) := by decide +kernel
theorem d_Mo_next_8 : decode prog_13_method_51_code 8 = .ok (.getfield 244, 3) := by decide +kernel
theorem d_Mo_next_11 : decode prog_13_method_51_code 11 = .ok (.iload_n 1, 1) := by decide +kernel
theorem d_Mo_next_12 : decode prog_13_method_51_code 12 = .ok (.i2l, 1) := by decide +kernel
theorem d_Mo_next_13 : decode prog_13_method_51_code 13 = .ok (.ladd, 1) := by decide +kernel
theorem d_Mo_next_14 : decode prog_13_method_51_code 14 = .ok (.ldc2_w 222, 3) := by decide +kernel
theorem d_Mo_next_17 : decode prog_13_method_51_code 17 = .ok (.aload_n 0, 1) := by decide +kernel
theorem d_Mo_next_18 : decode prog_13_method_51_code 18 = .ok (.getfield 354, 3) := by decide +kernel
theorem d_Mo_next_21 : decode prog_13_method_51_code 21 = .ok (.i2l, 1) := by decide +kernel
theorem d_Mo_next_22 : decode prog_13_method_51_code 22 = .ok (.lmul, 1) := by decide +kernel
theorem d_Mo_next_23 : decode prog_13_method_51_code 23 = .ok (.lcmp, 1) := by decide +kernel
theorem d_Mo_next_24 : decode prog_13_method_51_code 24 = .ok (.ifCond .le 11, 3) := by decide +kernel
theorem d_Mo_next_27 : decode prog_13_method_51_code 27 = .ok (.aload_n 0, 1) := by decide +kernel
theorem d_Mo_next_28 : decode prog_13_method_51_code 28 = .ok (.bipush 13, 2) := by decide +kernel
theorem d_Mo_next_30 : decode prog_13_method_51_code 30 = .ok (.invokevirtual 389, 3) := by decide +kernel
theorem d_Mo_next_33 : decode prog_13_method_51_code 33 = .ok (.lconst 0, 1) := by decide +kernel
theorem d_Mo_next_34 : decode prog_13_method_51_code 34 = .ok (.lreturn, 1) := by decide +kernel
theorem d_Mo_next_35 : decode prog_13_method_51_code 35 = .ok (.lconst 0, 1) := by decide +kernel
theorem d_Mo_next_36 : decode prog_13_method_51_code 36 = .ok (.lstore_n 2, 1) := by decide +kernel
theorem d_Mo_next_37 : decode prog_13_method_51_code 37 = .ok (.iconst 0, 1) := by decide +kernel
theorem d_Mo_next_38 : decode prog_13_method_51_code 38 = .ok (.istore 4, 2) := by decide +kernel
theorem d_Mo_next_40 : decode prog_13_method_51_code 40 = .ok (.iload 4, 2) := by decide +kernel
theorem d_Mo_next_42 : decode prog_13_method_51_code 42 = .ok (.iload_n 1, 1) := by decide +kernel
theorem d_Mo_next_43 : decode prog_13_method_51_code 43 = .ok (.if_icmp .ge 56, 3) := by decide +kernel
theorem d_Mo_next_46 : decode prog_13_method_51_code 46 = .ok (.ldc2_w 392, 3) := by decide +kernel
theorem d_Mo_next_49 : decode prog_13_method_51_code 49 = .ok (.lload_n 2, 1) := by decide +kernel
theorem d_Mo_next_50 : decode prog_13_method_51_code 50 = .ok (.lmul, 1) := by decide +kernel
theorem d_Mo_next_51 : decode prog_13_method_51_code 51 = .ok (.aload_n 0, 1) := by decide +kernel
theorem d_Mo_next_52 : decode prog_13_method_51_code 52 = .ok (.getfield 170, 3) := by decide +kernel
theorem d_Mo_next_55 : decode prog_13_method_51_code 55 = .ok (.aload_n 0, 1) := by decide +kernel
theorem d_Mo_next_56 : decode prog_13_method_51_code 56 = .ok (.getfield 244, 3) := by decide +kernel
theorem d_Mo_next_59 : decode prog_13_method_51_code 59 = .ok (.ldc2_w 222, 3) := by decide +kernel
theorem d_Mo_next_62 : decode prog_13_method_51_code 62 = .ok (.ldiv, 1) := by decide +kernel
theorem d_Mo_next_63 : decode prog_13_method_51_code 63 = .ok (.l2i, 1) := by decide +kernel
theorem d_Mo_next_64 : decode prog_13_method_51_code 64 = .ok (.iaload, 1) := by decide +kernel
theorem d_Mo_next_65 : decode prog_13_method_51_code 65 = .ok (.bipush 7, 2) := by decide +kernel
theorem d_Mo_next_67 : decode prog_13_method_51_code 67 = .ok (.aload_n 0, 1) := by decide +kernel
theorem d_Mo_next_68 : decode prog_13_method_51_code 68 = .ok (.getfield 244, 3) := by decide +kernel
theorem d_Mo_next_71 : decode prog_13_method_51_code 71 = .ok (.ldc2_w 222, 3) := by decide +kernel
theorem d_Mo_next_74 : decode prog_13_method_51_code 74 = .ok (.lrem, 1) := by decide +kernel
theorem d_Mo_next_75 : decode prog_13_method_51_code 75 = .ok (.l2i, 1) := by decide +kernel
theorem d_Mo_next_76 : decode prog_13_method_51_code 76 = .ok (.isub, 1) := by decide +kernel
theorem d_Mo_next_77 : decode prog_13_method_51_code 77 = .ok (.ishr, 1) := by decide +kernel
theorem d_Mo_next_78 : decode prog_13_method_51_code 78 = .ok (.iconst 1, 1) := by decide +kernel
theorem d_Mo_next_79 : decode prog_13_method_51_code 79 = .ok (.iand, 1) := by decide +kernel
theorem d_Mo_next_80 : decode prog_13_method_51_code 80 = .ok (.i2l, 1) := by decide +kernel
theorem d_Mo_next_81 : decode prog_13_method_51_code 81 = .ok (.ladd, 1) := by decide +kernel
theorem d_Mo_next_82 : decode prog_13_method_51_code 82 = .ok (.lstore_n 2, 1) := by decide +kernel
theorem d_Mo_next_83 : decode prog_13_method_51_code 83 = .ok (.aload_n 0, 1) := by decide +kernel
theorem d_Mo_next_84 : decode prog_13_method_51_code 84 = .ok (.dup, 1) := by decide +kernel
theorem d_Mo_next_85 : decode prog_13_method_51_code 85 = .ok (.getfield 244, 3) := by decide +kernel
theorem d_Mo_next_88 : decode prog_13_method_51_code 88 = .ok (.lconst 1, 1) := by decide +kernel
theorem d_Mo_next_89 : decode prog_13_method_51_code 89 = .ok (.ladd, 1) := by decide +kernel
theorem d_Mo_next_90 : decode prog_13_method_51_code 90 = .ok (.putfield 244, 3) := by decide +kernel
theorem d_Mo_next_93 : decode prog_13_method_51_code 93 = .ok (.iinc 4 1, 3) := by decide +kernel
theorem d_Mo_next_96 : decode prog_13_method_51_code 96 = .ok (.goto (-56), 3) := by decide +kernel
theorem d_Mo_next_99 : decode prog_13_method_51_code 99 = .ok (.lload_n 2, 1) := by decide +kernel
theorem d_Mo_next_100 : decode prog_13_method_51_code 100 = .ok (.lreturn, 1) := by decide +kernel
theorem d_Mo_nextSigned_0 : decode prog_13_method_52_code 0 = .ok (.aload_n 0, 1) := by decide +kernel
theorem d_Mo_nextSigned_1 : decode prog_13_method_52_code 1 = .ok (.iload_n 1, 1) := by decide +kernel
theorem d_Mo_nextSigned_2 : decode prog_13_method_52_code 2 = .ok (.invokevirtual 394, 3) := by decide +kernel
theorem d_Mo_nextSigned_5 : decode prog_13_method_52_code 5 = .ok (.lstore_n 2, 1) := by decide +kernel
theorem d_Mo_nextSigned_6 : decode prog_13_method_52_code 6 = .ok (.iload_n 1, 1) := by decide +kernel
theorem d_Mo_nextSigned_7 : decode prog_13_method_52_code 7 = .ok (.ifCond .le 21, 3) := by decide +kernel
theorem d_Mo_nextSigned_10 : decode prog_13_method_52_code 10 = .ok (.lload_n 2, 1) := by decide +kernel
theorem d_Mo_nextSigned_11 : decode prog_13_method_52_code 11 = .ok (.iload_n 1, 1) := by decide +kernel
theorem d_Mo_nextSigned_12 : decode prog_13_method_52_code 12 = .ok (.iconst 1, 1) := by decide +kernel
theorem d_Mo_nextSigned_13 : decode prog_13_method_52_code 13 = .ok (.isub, 1) := by decide +kernel
theorem d_Mo_nextSigned_14 : decode prog_13_method_52_code 14 = .ok (.lshr, 1) := by decide +kernel
theorem d_Mo_nextSigned_15 : decode prog_13_method_52_code 15 = .ok (.lconst 1, 1) := by decide +kernel
theorem d_Mo_nextSigned_16 : decode prog_13_method_52_code 16 = .ok (.lcmp, 1) := by decide +kernel
theorem d_Mo_nextSigned_17 : decode prog_13_method_52_code 17 = .ok (.ifCond .ne 11, 3) := by decide +kernel
theorem d_Mo_nextSigned_20 : decode prog_13_method_52_code 20 = .ok (.lload_n 2, 1) := by decide +kernel
theorem d_Mo_nextSigned_21 : decode prog_13_method_52_code 21 = .ok (.lconst 1, 1) := by decide +kernel
theorem d_Mo_nextSigned_22 : decode prog_13_method_52_code 22 = .ok (.iload_n 1, 1) := by decide +kernel
theorem d_Mo_nextSigned_23 : decode prog_13_method_52_code 23 = .ok (.lshl, 1) := by decide +kernel
theorem d_Mo_nextSigned_24 : decode prog_13_method_52_code 24 = .ok (.lsub, 1) := by decide +kernel
theorem d_Mo_nextSigned_25 : decode prog_13_method_52_code 25 = .ok (.goto 4, 3) := by decide +kernel
theorem d_Mo_nextSigned_28 : decode prog_13_method_52_code 28 = .ok (.lload_n 2, 1) := by decide +kernel
theorem d_Mo_nextSigned_29 : decode prog_13_method_52_code 29 = .ok (.l2i, 1) := by decide +kernel
theorem d_Mo_nextSigned_30 : decode prog_13_method_52_code 30 = .ok (.ireturn, 1) := by decide +kernel
theorem d_Mo_want_0 : decode prog_13_method_53_code 0 = .ok (.iload_n 1, 1) := by decide +kernel
theorem d_Mo_want_1 : decode prog_13_method_53_code 1 = .ok (.ifCond .ne 8, 3) := by decide +kernel
theorem d_Mo_want_4 : decode prog_13_method_53_code 4 = .ok (.aload_n 0, 1) := by decide +kernel
theorem d_Mo_want_5 : decode prog_13_method_53_code 5 = .ok (.iload_n 2, 1) := by decide +kernel
theorem d_Mo_want_6 : decode prog_13_method_53_code 6 = .ok (.invokevirtual 389, 3) := by decide +kernel
theorem d_Mo_want_9 : decode prog_13_method_53_code 9 = .ok (.return_, 1) := by decide +kernel
theorem d_Mo_information_0 : decode prog_13_method_54_code 0 = .ok (.aload_n 0, 1) := by decide +kernel
theorem d_Mo_information_1 : decode prog_13_method_54_code 1 = .ok (.aload_n 0, 1) := by decide +kernel
theorem d_Mo_information_2 : decode prog_13_method_54_code 2 = .ok (.bipush 16, 2) := by decide +kernel
theorem d_Mo_information_4 : decode prog_13_method_54_code 4 = .ok (.invokevirtual 394, 3) := by decide +kernel
theorem d_Mo_information_7 : decode prog_13_method_54_code 7 = .ok (.l2i, 1) := by decide +kernel
theorem d_Mo_information_8 : decode prog_13_method_54_code 8 = .ok (.putfield 398, 3) := by decide +kernel
theorem d_Mo_information_11 : decode prog_13_method_54_code 11 = .ok (.aload_n 0, 1) := by decide +kernel
theorem d_Mo_information_12 : decode prog_13_method_54_code 12 = .ok (.aload_n 0, 1) := by decide +kernel
theorem d_Mo_information_13 : decode prog_13_method_54_code 13 = .ok (.bipush 16, 2) := by decide +kernel
theorem d_Mo_information_15 : decode prog_13_method_54_code 15 = .ok (.invokevirtual 394, 3) := by decide +kernel
theorem d_Mo_information_18 : decode prog_13_method_54_code 18 = .ok (.l2i, 1) := by decide +kernel
theorem d_Mo_information_19 : decode prog_13_method_54_code 19 = .ok (.putfield 371, 3) := by decide +kernel
theorem d_Mo_information_22 : decode prog_13_method_54_code 22 = .ok (.aload_n 0, 1) := by decide +kernel
theorem d_Mo_information_23 : decode prog_13_method_54_code 23 = .ok (.bipush 48, 2) := by decide +kernel
theorem d_Mo_information_25 : decode prog_13_method_54_code 25 = .ok (.invokevirtual 394, 3) := by decide +kernel
theorem d_Mo_information_28 : decode prog_13_method_54_code 28 = .ok (.lstore_n 1, 1) := by decide +kernel
theorem d_Mo_information_29 : decode prog_13_method_54_code 29 = .ok (.aload_n 0, 1) := by decide +kernel
theorem d_Mo_information_30 : decode prog_13_method_54_code 30 = .ok (.aload_n 0, 1) := by decide +kernel
theorem d_Mo_information_31 : decode prog_13_method_54_code 31 = .ok (.bipush 20, 2) := by decide +kernel
theorem d_Mo_information_33 : decode prog_13_method_54_code 33 = .ok (.invokevirtual 394, 3) := by decide +kernel
theorem d_Mo_information_36 : decode prog_13_method_54_code 36 = .ok (.l2i, 1) := by decide +kernel
theorem d_Mo_information_37 : decode prog_13_method_54_code 37 = .ok (.putfield 374, 3) := by decide +kernel
theorem d_Mo_information_40 : decode prog_13_method_54_code 40 = .ok (.aload_n 0, 1) := by decide +kernel
theorem d_Mo_information_41 : decode prog_13_method_54_code 41 = .ok (.aload_n 0, 1) := by decide +kernel
theorem d_Mo_information_42 : decode prog_13_method_54_code 42 = .ok (.iconst 3, 1) := by decide +kernel
theorem d_Mo_information_43 : decode prog_13_method_54_code 43 = .ok (.invokevirtual 394, 3) := by decide +kernel
theorem d_Mo_information_46 : decode prog_13_method_54_code 46 = .ok (.l2i, 1) := by decide +kernel
theorem d_Mo_information_47 : decode prog_13_method_54_code 47 = .ok (.iconst 1, 1) := by decide +kernel
theorem d_Mo_information_48 : decode prog_13_method_54_code 48 = .ok (.iadd, 1) := by decide +kernel
theorem d_Mo_information_49 : decode prog_13_method_54_code 49 = .ok (.putfield 365, 3) := by decide +kernel
theorem d_Mo_information_52 : decode prog_13_method_54_code 52 = .ok (.aload_n 0, 1) := by decide +kernel
theorem d_Mo_information_53 : decode prog_13_method_54_code 53 = .ok (.aload_n 0, 1) := by decide +kernel
theorem d_Mo_information_54 : decode prog_13_method_54_code 54 = .ok (.iconst 5, 1) := by decide +kernel
theorem d_Mo_information_55 : decode prog_13_method_54_code 55 = .ok (.invokevirtual 394, 3) := by decide +kernel
theorem d_Mo_information_58 : decode prog_13_method_54_code 58 = .ok (.l2i, 1) := by decide +kernel
theorem d_Mo_information_59 : decode prog_13_method_54_code 59 = .ok (.iconst 1, 1) := by decide +kernel
theorem d_Mo_information_60 : decode prog_13_method_54_code 60 = .ok (.iadd, 1) := by decide +kernel
theorem d_Mo_information_61 : decode prog_13_method_54_code 61 = .ok (.putfield 368, 3) := by decide +kernel
theorem d_Mo_information_64 : decode prog_13_method_54_code 64 = .ok (.aload_n 0, 1) := by decide +kernel
theorem d_Mo_information_65 : decode prog_13_method_54_code 65 = .ok (.bipush 36, 2) := by decide +kernel
theorem d_Mo_information_67 : decode prog_13_method_54_code 67 = .ok (.invokevirtual 394, 3) := by decide +kernel
theorem d_Mo_information_70 : decode prog_13_method_54_code 70 = .ok (.lstore_n 3, 1) := by decide +kernel
theorem d_Mo_information_71 : decode prog_13_method_54_code 71 = .ok (.aload_n 0, 1) := by decide +kernel
theorem d_Mo_information_72 : decode prog_13_method_54_code 72 = .ok (.iconst 0, 1) := by decide +kernel
theorem d_Mo_information_73 : decode prog_13_method_54_code 73 = .ok (.putfield 383, 3) := by decide +kernel
theorem d_Mo_information_76 : decode prog_13_method_54_code 76 = .ok (.iconst 0, 1) := by decide +kernel
theorem d_Mo_information_77 : decode prog_13_method_54_code 77 = .ok (.istore 5, 2) := by decide +kernel
theorem d_Mo_information_79 : decode prog_13_method_54_code 79 = .ok (.iload 5, 2) := by decide +kernel
theorem d_Mo_information_81 : decode prog_13_method_54_code 81 = .ok (.bipush 16, 2) := by decide +kernel
theorem d_Mo_information_83 : decode prog_13_method_54_code 83 = .ok (.if_icmp .ge 49, 3) := by decide +kernel
theorem d_Mo_information_86 : decode prog_13_method_54_code 86 = .ok (.aload_n 0, 1) := by decide +kernel
theorem d_Mo_information_87 : decode prog_13_method_54_code 87 = .ok (.getfield 185, 3) := by decide +kernel
theorem d_Mo_information_90 : decode prog_13_method_54_code 90 = .ok (.iload 5, 2) := by decide +kernel
theorem d_Mo_information_92 : decode prog_13_method_54_code 92 = .ok (.aload_n 0, 1) := by decide +kernel
theorem d_Mo_information_93 : decode prog_13_method_54_code 93 = .ok (.bipush 8, 2) := by decide +kernel
theorem d_Mo_information_95 : decode prog_13_method_54_code 95 = .ok (.invokevirtual 394, 3) := by decide +kernel
theorem d_Mo_information_98 : decode prog_13_method_54_code 98 = .ok (.l2i, 1) := by decide +kernel
theorem d_Mo_information_99 : decode prog_13_method_54_code 99 = .ok (.iastore, 1) := by decide +kernel
theorem d_Mo_information_100 : decode prog_13_method_54_code 100 = .ok (.aload_n 0, 1) := by decide +kernel
theorem d_Mo_information_101 : decode prog_13_method_54_code 101 = .ok (.aload_n 0, 1) := by decide +kernel
theorem d_Mo_information_102 : decode prog_13_method_54_code 102 = .ok (.getfield 383, 3) := by decide +kernel
theorem d_Mo_information_105 : decode prog_13_method_54_code 105 = .ok (.ifCond .ne 13, 3) := by decide +kernel
theorem d_Mo_information_108 : decode prog_13_method_54_code 108 = .ok (.aload_n 0, 1) := by decide +kernel
theorem d_Mo_information_109 : decode prog_13_method_54_code 109 = .ok (.getfield 185, 3) := by decide +kernel
theorem d_Mo_information_112 : decode prog_13_method_54_code 112 = .ok (.iload 5, 2) := by decide +kernel
theorem d_Mo_information_114 : decode prog_13_method_54_code 114 = .ok (.iaload, 1) := by decide +kernel
theorem d_Mo_information_115 : decode prog_13_method_54_code 115 = .ok (.ifCond .eq 7, 3) := by decide +kernel
theorem d_Mo_information_118 : decode prog_13_method_54_code 118 = .ok (.iconst 1, 1) := by decide +kernel
theorem d_Mo_information_119 : decode prog_13_method_54_code 119 = .ok (.goto 4, 3) := by decide +kernel
theorem d_Mo_information_122 : decode prog_13_method_54_code 122 = .ok (.iconst 0, 1) := by decide +kernel
theorem d_Mo_information_123 : decode prog_13_method_54_code 123 = .ok (.putfield 383, 3) := by decide +kernel
theorem d_Mo_information_126 : decode prog_13_method_54_code 126 = .ok (.iinc 5 1, 3) := by decide +kernel
theorem d_Mo_information_129 : decode prog_13_method_54_code 129 = .ok (.goto (-50), 3) := by decide +kernel
theorem d_Mo_information_132 : decode prog_13_method_54_code 132 = .ok (.aload_n 0, 1) := by decide +kernel
theorem d_Mo_information_133 : decode prog_13_method_54_code 133 = .ok (.getfield 398, 3) := by decide +kernel
theorem d_Mo_information_136 : decode prog_13_method_54_code 136 = .ok (.bipush 16, 2) := by decide +kernel
theorem d_Mo_information_138 : decode prog_13_method_54_code 138 = .ok (.if_icmp .lt 31, 3) := by decide +kernel
theorem d_Mo_information_141 : decode prog_13_method_54_code 141 = .ok (.aload_n 0, 1) := by decide +kernel
theorem d_Mo_information_142 : decode prog_13_method_54_code 142 = .ok (.getfield 398, 3) := by decide +kernel
theorem d_Mo_information_145 : decode prog_13_method_54_code 145 = .ok (.aload_n 0, 1) := by decide +kernel
theorem d_Mo_information_146 : decode prog_13_method_54_code 146 = .ok (.getfield 371, 3) := by decide +kernel
theorem d_Mo_information_149 : decode prog_13_method_54_code 149 = .ok (.if_icmp .gt 20, 3) := by decide +kernel
theorem d_Mo_information_152 : decode prog_13_method_54_code 152 = .ok (.aload_n 0, 1) := by decide +kernel
theorem d_Mo_information_153 : decode prog_13_method_54_code 153 = .ok (.getfield 374, 3) := by decide +kernel
theorem d_Mo_information_156 : decode prog_13_method_54_code 156 = .ok (.ifCond .le 13, 3) := by decide +kernel
theorem d_Mo_information_159 : decode prog_13_method_54_code 159 = .ok (.lload_n 1, 1) := by decide +kernel
theorem d_Mo_information_160 : decode prog_13_method_54_code 160 = .ok (.lconst 0, 1) := by decide +kernel
theorem d_Mo_information_161 : decode prog_13_method_54_code 161 = .ok (.lcmp, 1) := by decide +kernel
theorem d_Mo_information_162 : decode prog_13_method_54_code 162 = .ok (.ifCond .lt 7, 3) := by decide +kernel
theorem d_Mo_information_165 : decode prog_13_method_54_code 165 = .ok (.iconst 1, 1) := by decide +kernel
theorem d_Mo_information_166 : decode prog_13_method_54_code 166 = .ok (.goto 4, 3) := by decide +kernel
theorem d_Mo_information_169 : decode prog_13_method_54_code 169 = .ok (.iconst 0, 1) := by decide +kernel
theorem d_Mo_information_170 : decode prog_13_method_54_code 170 = .ok (.istore 5, 2) := by decide +kernel
theorem d_Mo_information_172 : decode prog_13_method_54_code 172 = .ok (.iload 5, 2) := by decide +kernel
theorem d_Mo_information_174 : decode prog_13_method_54_code 174 = .ok (.ifCond .eq 36, 3) := by decide +kernel
theorem d_Mo_information_177 : decode prog_13_method_54_code 177 = .ok (.aload_n 0, 1) := by decide +kernel
theorem d_Mo_information_178 : decode prog_13_method_54_code 178 = .ok (.getfield 365, 3) := by decide +kernel
theorem d_Mo_information_181 : decode prog_13_method_54_code 181 = .ok (.iconst 2, 1) := by decide +kernel
theorem d_Mo_information_182 : decode prog_13_method_54_code 182 = .ok (.if_icmp .gt 28, 3) := by decide +kernel
theorem d_Mo_information_185 : decode prog_13_method_54_code 185 = .ok (.aload_n 0, 1) := by decide +kernel
theorem d_Mo_information_186 : decode prog_13_method_54_code 186 = .ok (.getfield 368, 3) := by decide +kernel
theorem d_Mo_information_189 : decode prog_13_method_54_code 189 = .ok (.iconst 4, 1) := by decide +kernel
theorem d_Mo_information_190 : decode prog_13_method_54_code 190 = .ok (.if_icmp .lt 20, 3) := by decide +kernel
theorem d_Mo_information_193 : decode prog_13_method_54_code 193 = .ok (.aload_n 0, 1) := by decide +kernel
theorem d_Mo_information_194 : decode prog_13_method_54_code 194 = .ok (.getfield 368, 3) := by decide +kernel
theorem d_Mo_information_197 : decode prog_13_method_54_code 197 = .ok (.bipush 24, 2) := by decide +kernel
theorem d_Mo_information_199 : decode prog_13_method_54_code 199 = .ok (.if_icmp .gt 11, 3) := by decide +kernel
theorem d_Mo_information_202 : decode prog_13_method_54_code 202 = .ok (.lload_n 3, 1) := by decide +kernel
theorem d_Mo_information_203 : decode prog_13_method_54_code 203 = .ok (.ldc2_w 401, 3) := by decide +kernel
theorem d_Mo_information_206 : decode prog_13_method_54_code 206 = .ok (.lcmp, 1) := by decide +kernel
theorem d_Mo_information_207 : decode prog_13_method_54_code 207 = .ok (.ifCond .le 14, 3) := by decide +kernel
theorem d_Mo_information_210 : decode prog_13_method_54_code 210 = .ok (.aload_n 0, 1) := by decide +kernel
theorem d_Mo_information_211 : decode prog_13_method_54_code 211 = .ok (.bipush 8, 2) := by decide +kernel
theorem d_Mo_information_213 : decode prog_13_method_54_code 213 = .ok (.putfield 403, 3) := by decide +kernel
theorem d_Mo_information_216 : decode prog_13_method_54_code 216 = .ok (.aload_n 0, 1) := by decide +kernel
theorem d_Mo_information_217 : decode prog_13_method_54_code 217 = .ok (.iconst 3, 1) := by decide +kernel
theorem d_Mo_information_218 : decode prog_13_method_54_code 218 = .ok (.invokevirtual 389, 3) := by decide +kernel
theorem d_Mo_information_221 : decode prog_13_method_54_code 221 = .ok (.aload_n 0, 1) := by decide +kernel
theorem d_Mo_information_222 : decode prog_13_method_54_code 222 = .ok (.lload_n 3, 1) := by decide +kernel
theorem d_Mo_information_223 : decode prog_13_method_54_code 223 = .ok (.l2i, 1) := by decide +kernel
theorem d_Mo_information_224 : decode prog_13_method_54_code 224 = .ok (.putfield 406, 3) := by decide +kernel
theorem d_Mo_information_227 : decode prog_13_method_54_code 227 = .ok (.return_, 1) := by decide +kernel
theorem d_Mo_blocks_0 : decode prog_13_method_55_code 0 = .ok (.iconst 0, 1) := by decide +kernel
theorem d_Mo_blocks_1 : decode prog_13_method_55_code 1 = .ok (.istore_n 1, 1) := by decide +kernel
theorem d_Mo_blocks_2 : decode prog_13_method_55_code 2 = .ok (.iconst 1, 1) := by decide +kernel
theorem d_Mo_blocks_3 : decode prog_13_method_55_code 3 = .ok (.istore_n 2, 1) := by decide +kernel
theorem d_Mo_blocks_4 : decode prog_13_method_55_code 4 = .ok (.iload_n 1, 1) := by decide +kernel
theorem d_Mo_blocks_5 : decode prog_13_method_55_code 5 = .ok (.ifCond .ne 190, 3) := by decide +kernel
theorem d_Mo_blocks_8 : decode prog_13_method_55_code 8 = .ok (.aload_n 0, 1) := by decide +kernel
theorem d_Mo_blocks_9 : decode prog_13_method_55_code 9 = .ok (.getfield 386, 3) := by decide +kernel
theorem d_Mo_blocks_12 : decode prog_13_method_55_code 12 = .ok (.ifCond .ne 183, 3) := by decide +kernel
theorem d_Mo_blocks_15 : decode prog_13_method_55_code 15 = .ok (.aload_n 0, 1) := by decide +kernel
theorem d_Mo_blocks_16 : decode prog_13_method_55_code 16 = .ok (.aload_n 0, 1) := by decide +kernel
theorem d_Mo_blocks_17 : decode prog_13_method_55_code 17 = .ok (.getfield 244, 3) := by decide +kernel
theorem d_Mo_blocks_20 : decode prog_13_method_55_code 20 = .ok (.ldc2_w 222, 3) := by decide +kernel
theorem d_Mo_blocks_23 : decode prog_13_method_55_code 23 = .ok (.ldiv, 1) := by decide +kernel
theorem d_Mo_blocks_24 : decode prog_13_method_55_code 24 = .ok (.l2i, 1) := by decide +kernel
theorem d_Mo_blocks_25 : decode prog_13_method_55_code 25 = .ok (.putfield 403, 3) := by decide +kernel
theorem d_Mo_blocks_28 : decode prog_13_method_55_code 28 = .ok (.aload_n 0, 1) := by decide +kernel
theorem d_Mo_blocks_29 : decode prog_13_method_55_code 29 = .ok (.iconst 1, 1) := by decide +kernel
theorem d_Mo_blocks_30 : decode prog_13_method_55_code 30 = .ok (.invokevirtual 394, 3) := by decide +kernel
theorem d_Mo_blocks_33 : decode prog_13_method_55_code 33 = .ok (.lconst 1, 1) := by decide +kernel
theorem d_Mo_blocks_34 : decode prog_13_method_55_code 34 = .ok (.lcmp, 1) := by decide +kernel
theorem d_Mo_blocks_35 : decode prog_13_method_55_code 35 = .ok (.ifCond .ne 7, 3) := by decide +kernel
theorem d_Mo_blocks_38 : decode prog_13_method_55_code 38 = .ok (.iconst 1, 1) := by decide +kernel
theorem d_Mo_blocks_39 : decode prog_13_method_55_code 39 = .ok (.goto 4, 3) := by decide +kernel
theorem d_Mo_blocks_42 : decode prog_13_method_55_code 42 = .ok (.iconst 0, 1) := by decide +kernel
theorem d_Mo_blocks_43 : decode prog_13_method_55_code 43 = .ok (.istore_n 1, 1) := by decide +kernel
theorem d_Mo_blocks_44 : decode prog_13_method_55_code 44 = .ok (.aload_n 0, 1) := by decide +kernel
theorem d_Mo_blocks_45 : decode prog_13_method_55_code 45 = .ok (.bipush 7, 2) := by decide +kernel
theorem d_Mo_blocks_47 : decode prog_13_method_55_code 47 = .ok (.invokevirtual 394, 3) := by decide +kernel
theorem d_Mo_blocks_50 : decode prog_13_method_55_code 50 = .ok (.l2i, 1) := by decide +kernel
theorem d_Mo_blocks_51 : decode prog_13_method_55_code 51 = .ok (.istore_n 3, 1) := by decide +kernel
theorem d_Mo_blocks_52 : decode prog_13_method_55_code 52 = .ok (.aload_n 0, 1) := by decide +kernel
theorem d_Mo_blocks_53 : decode prog_13_method_55_code 53 = .ok (.bipush 24, 2) := by decide +kernel
theorem d_Mo_blocks_55 : decode prog_13_method_55_code 55 = .ok (.invokevirtual 394, 3) := by decide +kernel
theorem d_Mo_blocks_58 : decode prog_13_method_55_code 58 = .ok (.l2i, 1) := by decide +kernel
theorem d_Mo_blocks_59 : decode prog_13_method_55_code 59 = .ok (.istore 4, 2) := by decide +kernel
theorem d_Mo_blocks_61 : decode prog_13_method_55_code 61 = .ok (.aload_n 0, 1) := by decide +kernel
theorem d_Mo_blocks_62 : decode prog_13_method_55_code 62 = .ok (.getfield 386, 3) := by decide +kernel
theorem d_Mo_blocks_65 : decode prog_13_method_55_code 65 = .ok (.ifCond .ne 46, 3) := by decide +kernel
theorem d_Mo_blocks_68 : decode prog_13_method_55_code 68 = .ok (.aload_n 0, 1) := by decide +kernel
theorem d_Mo_blocks_69 : decode prog_13_method_55_code 69 = .ok (.iload_n 2, 1) := by decide +kernel
theorem d_Mo_blocks_70 : decode prog_13_method_55_code 70 = .ok (.ifCond .eq 22, 3) := by decide +kernel
theorem d_Mo_blocks_73 : decode prog_13_method_55_code 73 = .ok (.iload_n 3, 1) := by decide +kernel
theorem d_Mo_blocks_74 : decode prog_13_method_55_code 74 = .ok (.ifCond .ne 14, 3) := by decide +kernel
theorem d_Mo_blocks_77 : decode prog_13_method_55_code 77 = .ok (.iload 4, 2) := by decide +kernel
theorem d_Mo_blocks_79 : decode prog_13_method_55_code 79 = .ok (.bipush 34, 2) := by decide +kernel
theorem d_Mo_blocks_81 : decode prog_13_method_55_code 81 = .ok (.if_icmp .ne 7, 3) := by decide +kernel
theorem d_Mo_blocks_84 : decode prog_13_method_55_code 84 = .ok (.iconst 1, 1) := by decide +kernel
theorem d_Mo_blocks_85 : decode prog_13_method_55_code 85 = .ok (.goto 22, 3) := by decide +kernel
theorem d_Mo_blocks_88 : decode prog_13_method_55_code 88 = .ok (.iconst 0, 1) := by decide +kernel
theorem d_Mo_blocks_89 : decode prog_13_method_55_code 89 = .ok (.goto 18, 3) := by decide +kernel
theorem d_Mo_blocks_92 : decode prog_13_method_55_code 92 = .ok (.iload_n 3, 1) := by decide +kernel
theorem d_Mo_blocks_93 : decode prog_13_method_55_code 93 = .ok (.ifCond .le 13, 3) := by decide +kernel
theorem d_Mo_blocks_96 : decode prog_13_method_55_code 96 = .ok (.iload_n 3, 1) := by decide +kernel
theorem d_Mo_blocks_97 : decode prog_13_method_55_code 97 = .ok (.bipush 127, 2) := by decide +kernel
theorem d_Mo_blocks_99 : decode prog_13_method_55_code 99 = .ok (.if_icmp .ge 7, 3) := by decide +kernel
theorem d_Mo_blocks_102 : decode prog_13_method_55_code 102 = .ok (.iconst 1, 1) := by decide +kernel
theorem d_Mo_blocks_103 : decode prog_13_method_55_code 103 = .ok (.goto 4, 3) := by decide +kernel
theorem d_Mo_blocks_106 : decode prog_13_method_55_code 106 = .ok (.iconst 0, 1) := by decide +kernel
theorem d_Mo_blocks_107 : decode prog_13_method_55_code 107 = .ok (.iconst 2, 1) := by decide +kernel
theorem d_Mo_blocks_108 : decode prog_13_method_55_code 108 = .ok (.invokevirtual 409, 3) := by decide +kernel
theorem d_Mo_blocks_111 : decode prog_13_method_55_code 111 = .ok (.aload_n 0, 1) := by decide +kernel
theorem d_Mo_blocks_112 : decode prog_13_method_55_code 112 = .ok (.getfield 386, 3) := by decide +kernel
theorem d_Mo_blocks_115 : decode prog_13_method_55_code 115 = .ok (.ifCond .ne 34, 3) := by decide +kernel
theorem d_Mo_blocks_118 : decode prog_13_method_55_code 118 = .ok (.aload_n 0, 1) := by decide +kernel
theorem d_Mo_blocks_119 : decode prog_13_method_55_code 119 = .ok (.getfield 244, 3) := by decide +kernel
theorem d_Mo_blocks_122 : decode prog_13_method_55_code 122 = .ok (.ldc2_w 222, 3) := by decide +kernel
theorem d_Mo_blocks_125 : decode prog_13_method_55_code 125 = .ok (.iload 4, 2) := by decide +kernel
theorem d_Mo_blocks_127 : decode prog_13_method_55_code 127 = .ok (.i2l, 1) := by decide +kernel
theorem d_Mo_blocks_128 : decode prog_13_method_55_code 128 = .ok (.lmul, 1) := by decide +kernel
theorem d_Mo_blocks_129 : decode prog_13_method_55_code 129 = .ok (.ladd, 1) := by decide +kernel
theorem d_Mo_blocks_130 : decode prog_13_method_55_code 130 = .ok (.ldc2_w 222, 3) := by decide +kernel
theorem d_Mo_blocks_133 : decode prog_13_method_55_code 133 = .ok (.aload_n 0, 1) := by decide +kernel
theorem d_Mo_blocks_134 : decode prog_13_method_55_code 134 = .ok (.getfield 354, 3) := by decide +kernel
theorem d_Mo_blocks_137 : decode prog_13_method_55_code 137 = .ok (.i2l, 1) := by decide +kernel
theorem d_Mo_blocks_138 : decode prog_13_method_55_code 138 = .ok (.lmul, 1) := by decide +kernel
theorem d_Mo_blocks_139 : decode prog_13_method_55_code 139 = .ok (.lcmp, 1) := by decide +kernel
theorem d_Mo_blocks_140 : decode prog_13_method_55_code 140 = .ok (.ifCond .le 9, 3) := by decide +kernel
theorem d_Mo_blocks_143 : decode prog_13_method_55_code 143 = .ok (.aload_n 0, 1) := by decide +kernel
theorem d_Mo_blocks_144 : decode prog_13_method_55_code 144 = .ok (.bipush 13, 2) := by decide +kernel
theorem d_Mo_blocks_146 : decode prog_13_method_55_code 146 = .ok (.invokevirtual 389, 3) := by decide +kernel
theorem d_Mo_blocks_149 : decode prog_13_method_55_code 149 = .ok (.aload_n 0, 1) := by decide +kernel
theorem d_Mo_blocks_150 : decode prog_13_method_55_code 150 = .ok (.getfield 386, 3) := by decide +kernel
theorem d_Mo_blocks_153 : decode prog_13_method_55_code 153 = .ok (.ifCond .ne 14, 3) := by decide +kernel
theorem d_Mo_blocks_156 : decode prog_13_method_55_code 156 = .ok (.iload_n 2, 1) := by decide +kernel
theorem d_Mo_blocks_157 : decode prog_13_method_55_code 157 = .ok (.ifCond .eq 10, 3) := by decide +kernel
theorem d_Mo_blocks_160 : decode prog_13_method_55_code 160 = .ok (.aload_n 0, 1) := by decide +kernel
theorem d_Mo_blocks_161 : decode prog_13_method_55_code 161 = .ok (.invokevirtual 413, 3) := by decide +kernel
theorem d_Mo_blocks_164 : decode prog_13_method_55_code 164 = .ok (.goto 26, 3) := by decide +kernel
theorem d_Mo_blocks_167 : decode prog_13_method_55_code 167 = .ok (.aload_n 0, 1) := by decide +kernel
theorem d_Mo_blocks_168 : decode prog_13_method_55_code 168 = .ok (.getfield 386, 3) := by decide +kernel
theorem d_Mo_blocks_171 : decode prog_13_method_55_code 171 = .ok (.ifCond .ne 19, 3) := by decide +kernel
theorem d_Mo_blocks_174 : decode prog_13_method_55_code 174 = .ok (.aload_n 0, 1) := by decide +kernel
theorem d_Mo_blocks_175 : decode prog_13_method_55_code 175 = .ok (.aload_n 0, 1) := by decide +kernel
theorem d_Mo_blocks_176 : decode prog_13_method_55_code 176 = .ok (.getfield 244, 3) := by decide +kernel
theorem d_Mo_blocks_179 : decode prog_13_method_55_code 179 = .ok (.ldc2_w 222, 3) := by decide +kernel
theorem d_Mo_blocks_182 : decode prog_13_method_55_code 182 = .ok (.iload 4, 2) := by decide +kernel
theorem d_Mo_blocks_184 : decode prog_13_method_55_code 184 = .ok (.i2l, 1) := by decide +kernel
theorem d_Mo_blocks_185 : decode prog_13_method_55_code 185 = .ok (.lmul, 1) := by decide +kernel
theorem d_Mo_blocks_186 : decode prog_13_method_55_code 186 = .ok (.ladd, 1) := by decide +kernel
theorem d_Mo_blocks_187 : decode prog_13_method_55_code 187 = .ok (.putfield 244, 3) := by decide +kernel
theorem d_Mo_blocks_190 : decode prog_13_method_55_code 190 = .ok (.iconst 0, 1) := by decide +kernel
theorem d_Mo_blocks_191 : decode prog_13_method_55_code 191 = .ok (.istore_n 2, 1) := by decide +kernel
theorem d_Mo_blocks_192 : decode prog_13_method_55_code 192 = .ok (.goto (-188), 3) := by decide +kernel
theorem d_Mo_blocks_195 : decode prog_13_method_55_code 195 = .ok (.return_, 1) := by decide +kernel
theorem d_Mo_sizeOf_0 : decode prog_13_method_56_code 0 = .ok (.iload_n 1, 1) := by decide +kernel
theorem d_Mo_sizeOf_1 : decode prog_13_method_56_code 1 = .ok (.bipush 6, 2) := by decide +kernel
theorem d_Mo_sizeOf_3 : decode prog_13_method_56_code 3 = .ok (.if_icmp .eq 9, 3) := by decide +kernel
theorem d_Mo_sizeOf_6 : decode prog_13_method_56_code 6 = .ok (.iload_n 1, 1) := by decide +kernel
theorem d_Mo_sizeOf_7 : decode prog_13_method_56_code 7 = .ok (.bipush 7, 2) := by decide +kernel
theorem d_Mo_sizeOf_9 : decode prog_13_method_56_code 9 = .ok (.if_icmp .ne 24, 3) := by decide +kernel
theorem d_Mo_sizeOf_12 : decode prog_13_method_56_code 12 = .ok (.aload_n 0, 1) := by decide +kernel
theorem d_Mo_sizeOf_13 : decode prog_13_method_56_code 13 = .ok (.iload_n 1, 1) := by decide +kernel
theorem d_Mo_sizeOf_14 : decode prog_13_method_56_code 14 = .ok (.bipush 6, 2) := by decide +kernel
theorem d_Mo_sizeOf_16 : decode prog_13_method_56_code 16 = .ok (.if_icmp .ne 8, 3) := by decide +kernel
theorem d_Mo_sizeOf_19 : decode prog_13_method_56_code 19 = .ok (.bipush 8, 2) := by decide +kernel
theorem d_Mo_sizeOf_21 : decode prog_13_method_56_code 21 = .ok (.goto 5, 3) := by decide +kernel
theorem d_Mo_sizeOf_24 : decode prog_13_method_56_code 24 = .ok (.bipush 16, 2) := by decide +kernel
theorem d_Mo_sizeOf_26 : decode prog_13_method_56_code 26 = .ok (.invokevirtual 394, 3) := by decide +kernel
theorem d_Mo_sizeOf_29 : decode prog_13_method_56_code 29 = .ok (.l2i, 1) := by decide +kernel
theorem d_Mo_sizeOf_30 : decode prog_13_method_56_code 30 = .ok (.iconst 1, 1) := by decide +kernel
theorem d_Mo_sizeOf_31 : decode prog_13_method_56_code 31 = .ok (.iadd, 1) := by decide +kernel
theorem d_Mo_sizeOf_32 : decode prog_13_method_56_code 32 = .ok (.ireturn, 1) := by decide +kernel
theorem d_Mo_sizeOf_33 : decode prog_13_method_56_code 33 = .ok (.iload_n 1, 1) := by decide +kernel
theorem d_Mo_sizeOf_34 : decode prog_13_method_56_code 34 = .ok (.iconst 1, 1) := by decide +kernel
theorem d_Mo_sizeOf_35 : decode prog_13_method_56_code 35 = .ok (.if_icmp .ne 9, 3) := by decide +kernel
theorem d_Mo_sizeOf_38 : decode prog_13_method_56_code 38 = .ok (.sipush 192, 3) := by decide +kernel
theorem d_Mo_sizeOf_41 : decode prog_13_method_56_code 41 = .ok (.goto 27, 3) := by decide +kernel
theorem d_Mo_sizeOf_44 : decode prog_13_method_56_code 44 = .ok (.iload_n 1, 1) := by decide +kernel
theorem d_Mo_sizeOf_45 : decode prog_13_method_56_code 45 = .ok (.bipush 6, 2) := by decide +kernel
theorem d_Mo_sizeOf_47 : decode prog_13_method_56_code 47 = .ok (.if_icmp .ge 13, 3) := by decide +kernel
theorem d_Mo_sizeOf_50 : decode prog_13_method_56_code 50 = .ok (.sipush 576, 3) := by decide +kernel
theorem d_Mo_sizeOf_53 : decode prog_13_method_56_code 53 = .ok (.iload_n 1, 1) := by decide +kernel
theorem d_Mo_sizeOf_54 : decode prog_13_method_56_code 54 = .ok (.iconst 2, 1) := by decide +kernel
theorem d_Mo_sizeOf_55 : decode prog_13_method_56_code 55 = .ok (.isub, 1) := by decide +kernel
theorem d_Mo_sizeOf_56 : decode prog_13_method_56_code 56 = .ok (.ishl, 1) := by decide +kernel
theorem d_Mo_sizeOf_57 : decode prog_13_method_56_code 57 = .ok (.goto 11, 3) := by decide +kernel
theorem d_Mo_sizeOf_60 : decode prog_13_method_56_code 60 = .ok (.sipush 256, 3) := by decide +kernel
theorem d_Mo_sizeOf_63 : decode prog_13_method_56_code 63 = .ok (.iload_n 1, 1) := by decide +kernel
theorem d_Mo_sizeOf_64 : decode prog_13_method_56_code 64 = .ok (.bipush 8, 2) := by decide +kernel
theorem d_Mo_sizeOf_66 : decode prog_13_method_56_code 66 = .ok (.isub, 1) := by decide +kernel
theorem d_Mo_sizeOf_67 : decode prog_13_method_56_code 67 = .ok (.ishl, 1) := by decide +kernel
theorem d_Mo_sizeOf_68 : decode prog_13_method_56_code 68 = .ok (.ireturn, 1) := by decide +kernel
theorem d_Mo_isWrongDepth_0 : decode prog_13_method_57_code 0 = .ok (.iload_n 1, 1) := by decide +kernel
theorem d_Mo_isWrongDepth_1 : decode prog_13_method_57_code 1 = .ok (.ifCond .ne 10, 3) := by decide +kernel
theorem d_Mo_isWrongDepth_4 : decode prog_13_method_57_code 4 = .ok (.aload_n 0, 1) := by decide +kernel
theorem d_Mo_isWrongDepth_5 : decode prog_13_method_57_code 5 = .ok (.getfield 368, 3) := by decide +kernel
theorem d_Mo_isWrongDepth_8 : decode prog_13_method_57_code 8 = .ok (.goto 55, 3) := by decide +kernel
theorem d_Mo_isWrongDepth_11 : decode prog_13_method_57_code 11 = .ok (.iload_n 1, 1) := by decide +kernel
theorem d_Mo_isWrongDepth_12 : decode prog_13_method_57_code 12 = .ok (.iconst 1, 1) := by decide +kernel
theorem d_Mo_isWrongDepth_13 : decode prog_13_method_57_code 13 = .ok (.if_icmp .ne 8, 3) := by decide +kernel
theorem d_Mo_isWrongDepth_16 : decode prog_13_method_57_code 16 = .ok (.bipush 8, 2) := by decide +kernel
theorem d_Mo_isWrongDepth_18 : decode prog_13_method_57_code 18 = .ok (.goto 45, 3) := by decide +kernel
theorem d_Mo_isWrongDepth_21 : decode prog_13_method_57_code 21 = .ok (.iload_n 1, 1) := by decide +kernel
theorem d_Mo_isWrongDepth_22 : decode prog_13_method_57_code 22 = .ok (.iconst 2, 1) := by decide +kernel
theorem d_Mo_isWrongDepth_23 : decode prog_13_method_57_code 23 = .ok (.if_icmp .ne 8, 3) := by decide +kernel
theorem d_Mo_isWrongDepth_26 : decode prog_13_method_57_code 26 = .ok (.bipush 12, 2) := by decide +kernel
theorem d_Mo_isWrongDepth_28 : decode prog_13_method_57_code 28 = .ok (.goto 35, 3) := by decide +kernel
theorem d_Mo_isWrongDepth_31 : decode prog_13_method_57_code 31 = .ok (.iload_n 1, 1) := by decide +kernel
theorem d_Mo_isWrongDepth_32 : decode prog_13_method_57_code 32 = .ok (.iconst 4, 1) := by decide +kernel
theorem d_Mo_isWrongDepth_33 : decode prog_13_method_57_code 33 = .ok (.if_icmp .ne 8, 3) := by decide +kernel
theorem d_Mo_isWrongDepth_36 : decode prog_13_method_57_code 36 = .ok (.bipush 16, 2) := by decide +kernel
theorem d_Mo_isWrongDepth_38 : decode prog_13_method_57_code 38 = .ok (.goto 25, 3) := by decide +kernel
theorem d_Mo_isWrongDepth_41 : decode prog_13_method_57_code 41 = .ok (.iload_n 1, 1) := by decide +kernel
theorem d_Mo_isWrongDepth_42 : decode prog_13_method_57_code 42 = .ok (.iconst 5, 1) := by decide +kernel
theorem d_Mo_isWrongDepth_43 : decode prog_13_method_57_code 43 = .ok (.if_icmp .ne 8, 3) := by decide +kernel
theorem d_Mo_isWrongDepth_46 : decode prog_13_method_57_code 46 = .ok (.bipush 20, 2) := by decide +kernel
theorem d_Mo_isWrongDepth_48 : decode prog_13_method_57_code 48 = .ok (.goto 15, 3) := by decide +kernel
theorem d_Mo_isWrongDepth_51 : decode prog_13_method_57_code 51 = .ok (.iload_n 1, 1) := by decide +kernel
theorem d_Mo_isWrongDepth_52 : decode prog_13_method_57_code 52 = .ok (.bipush 6, 2) := by decide +kernel
theorem d_Mo_isWrongDepth_54 : decode prog_13_method_57_code 54 = .ok (.if_icmp .ne 8, 3) := by decide +kernel
theorem d_Mo_isWrongDepth_57 : decode prog_13_method_57_code 57 = .ok (.bipush 24, 2) := by decide +kernel
theorem d_Mo_isWrongDepth_59 : decode prog_13_method_57_code 59 = .ok (.goto 4, 3) := by decide +kernel
theorem d_Mo_isWrongDepth_62 : decode prog_13_method_57_code 62 = .ok (.iconst (-1), 1) := by decide +kernel
theorem d_Mo_isWrongDepth_63 : decode prog_13_method_57_code 63 = .ok (.istore_n 2, 1) := by decide +kernel
theorem d_Mo_isWrongDepth_64 : decode prog_13_method_57_code 64 = .ok (.iload_n 2, 1) := by decide +kernel
theorem d_Mo_isWrongDepth_65 : decode prog_13_method_57_code 65 = .ok (.aload_n 0, 1) := by decide +kernel
theorem d_Mo_isWrongDepth_66 : decode prog_13_method_57_code 66 = .ok (.getfield 368, 3) := by decide +kernel
theorem d_Mo_isWrongDepth_69 : decode prog_13_method_57_code 69 = .ok (.if_icmp .eq 7, 3) := by decide +kernel
theorem d_Mo_isWrongDepth_72 : decode prog_13_method_57_code 72 = .ok (.iconst 1, 1) := by decide +kernel
theorem d_Mo_isWrongDepth_73 : decode prog_13_method_57_code 73 = .ok (.goto 4, 3) := by decide +kernel
theorem d_Mo_isWrongDepth_76 : decode prog_13_method_57_code 76 = .ok (.iconst 0, 1) := by decide +kernel
theorem d_Mo_isWrongDepth_77 : decode prog_13_method_57_code 77 = .ok (.ireturn, 1) := by decide +kernel
theorem d_Mo_oneFrame_0 : decode prog_13_method_58_code 0 = .ok (.aload_n 0, 1) := by decide +kernel
theorem d_Mo_oneFrame_1 : decode prog_13_method_58_code 1 = .ok (.aload_n 0, 1) := by decide +kernel
theorem d_Mo_oneFrame_2 : decode prog_13_method_58_code 2 = .ok (.getfield 244, 3) := by decide +kernel
theorem d_Mo_oneFrame_5 : decode prog_13_method_58_code 5 = .ok (.ldc2_w 222, 3) := by decide +kernel
theorem d_Mo_oneFrame_8 : decode prog_13_method_58_code 8 = .ok (.ldiv, 1) := by decide +kernel
theorem d_Mo_oneFrame_9 : decode prog_13_method_58_code 9 = .ok (.l2i, 1) := by decide +kernel
theorem d_Mo_oneFrame_10 : decode prog_13_method_58_code 10 = .ok (.putfield 403, 3) := by decide +kernel
theorem d_Mo_oneFrame_13 : decode prog_13_method_58_code 13 = .ok (.aload_n 0, 1) := by decide +kernel
theorem d_Mo_oneFrame_14 : decode prog_13_method_58_code 14 = .ok (.bipush 16, 2) := by decide +kernel
theorem d_Mo_oneFrame_16 : decode prog_13_method_58_code 16 = .ok (.invokevirtual 394, 3) := by decide +kernel
theorem d_Mo_oneFrame_19 : decode prog_13_method_58_code 19 = .ok (.l2i, 1) := by decide +kernel
theorem d_Mo_oneFrame_20 : decode prog_13_method_58_code 20 = .ok (.istore_n 1, 1) := by decide +kernel
theorem d_Mo_oneFrame_21 : decode prog_13_method_58_code 21 = .ok (.aload_n 0, 1) := by decide +kernel
theorem d_Mo_oneFrame_22 : decode prog_13_method_58_code 22 = .ok (.getfield 386, 3) := by decide +kernel
theorem d_Mo_oneFrame_25 : decode prog_13_method_58_code 25 = .ok (.ifCond .le 4, 3) := by decide +kernel
theorem d_Mo_oneFrame_28 : decode prog_13_method_58_code 28 = .ok (.return_, 1) := by decide +kernel
theorem d_Mo_oneFrame_29 : decode prog_13_method_58_code 29 = .ok (.aload_n 0, 1) := by decide +kernel
theorem d_Mo_oneFrame_30 : decode prog_13_method_58_code 30 = .ok (.aload_n 0, 1) := by decide +kernel
theorem d_Mo_oneFrame_31 : decode prog_13_method_58_code 31 = .ok (.getfield 380, 3) := by decide +kernel
theorem d_Mo_oneFrame_34 : decode prog_13_method_58_code 34 = .ok (.ifCond .ne 9, 3) := by decide +kernel
theorem d_Mo_oneFrame_37 : decode prog_13_method_58_code 37 = .ok (.iload_n 1, 1) := by decide +kernel
theorem d_Mo_oneFrame_38 : decode prog_13_method_58_code 38 = .ok (.iconst 1, 1) := by decide +kernel
theorem d_Mo_oneFrame_39 : decode prog_13_method_58_code 39 = .ok (.iand, 1) := by decide +kernel
theorem d_Mo_oneFrame_40 : decode prog_13_method_58_code 40 = .ok (.goto 7, 3) := by decide +kernel
theorem d_Mo_oneFrame_43 : decode prog_13_method_58_code 43 = .ok (.aload_n 0, 1) := by decide +kernel
theorem d_Mo_oneFrame_44 : decode prog_13_method_58_code 44 = .ok (.getfield 416, 3) := by decide +kernel
theorem d_Mo_oneFrame_47 : decode prog_13_method_58_code 47 = .ok (.putfield 416, 3) := by decide +kernel
theorem d_Mo_oneFrame_50 : decode prog_13_method_58_code 50 = .ok (.aload_n 0, 1) := by decide +kernel
theorem d_Mo_oneFrame_51 : decode prog_13_method_58_code 51 = .ok (.iload_n 1, 1) := by decide +kernel
theorem d_Mo_oneFrame_52 : decode prog_13_method_58_code 52 = .ok (.iconst 1, 1) := by decide +kernel
theorem d_Mo_oneFrame_53 : decode prog_13_method_58_code 53 = .ok (.ishr, 1) := by decide +kernel
theorem d_Mo_oneFrame_54 : decode prog_13_method_58_code 54 = .ok (.sipush 32764, 3) := by decide +kernel
theorem d_Mo_oneFrame_57 : decode prog_13_method_58_code 57 = .ok (.if_icmp .ne 17, 3) := by decide +kernel
theorem d_Mo_oneFrame_60 : decode prog_13_method_58_code 60 = .ok (.iload_n 1, 1) := by decide +kernel
theorem d_Mo_oneFrame_61 : decode prog_13_method_58_code 61 = .ok (.iconst 1, 1) := by decide +kernel
theorem d_Mo_oneFrame_62 : decode prog_13_method_58_code 62 = .ok (.iand, 1) := by decide +kernel
theorem d_Mo_oneFrame_63 : decode prog_13_method_58_code 63 = .ok (.aload_n 0, 1) := by decide +kernel
theorem d_Mo_oneFrame_64 : decode prog_13_method_58_code 64 = .ok (.getfield 416, 3) := by decide +kernel
theorem d_Mo_oneFrame_67 : decode prog_13_method_58_code 67 = .ok (.if_icmp .ne 7, 3) := by decide +kernel
theorem d_Mo_oneFrame_70 : decode prog_13_method_58_code 70 = .ok (.iconst 1, 1) := by decide +kernel
theorem d_Mo_oneFrame_71 : decode prog_13_method_58_code 71 = .ok (.goto 4, 3) := by decide +kernel
theorem d_Mo_oneFrame_74 : decode prog_13_method_58_code 74 = .ok (.iconst 0, 1) := by decide +kernel
theorem d_Mo_oneFrame_75 : decode prog_13_method_58_code 75 = .ok (.iconst 4, 1) := by decide +kernel
theorem d_Mo_oneFrame_76 : decode prog_13_method_58_code 76 = .ok (.invokevirtual 409, 3) := by decide +kernel
theorem d_Mo_oneFrame_79 : decode prog_13_method_58_code 79 = .ok (.aload_n 0, 1) := by decide +kernel
theorem d_Mo_oneFrame_80 : decode prog_13_method_58_code 80 = .ok (.bipush 16, 2) := by decide +kernel
theorem d_Mo_oneFrame_82 : decode prog_13_method_58_code 82 = .ok (.invokevirtual 394, 3) := by decide +kernel
theorem d_Mo_oneFrame_85 : decode prog_13_method_58_code 85 = .ok (.l2i, 1) := by decide +kernel
theorem d_Mo_oneFrame_86 : decode prog_13_method_58_code 86 = .ok (.istore_n 2, 1) := by decide +kernel
theorem d_Mo_oneFrame_87 : decode prog_13_method_58_code 87 = .ok (.aload_n 0, 1) := by decide +kernel
theorem d_Mo_oneFrame_88 : decode prog_13_method_58_code 88 = .ok (.getfield 386, 3) := by decide +kernel
theorem d_Mo_oneFrame_91 : decode prog_13_method_58_code 91 = .ok (.ifCond .le 4, 3) := by decide +kernel
theorem d_Mo_oneFrame_94 : decode prog_13_method_58_code 94 = .ok (.return_, 1) := by decide +kernel
theorem d_Mo_oneFrame_95 : decode prog_13_method_58_code 95 = .ok (.iload_n 2, 1) := by decide +kernel
theorem d_Mo_oneFrame_96 : decode prog_13_method_58_code 96 = .ok (.bipush 12, 2) := by decide +kernel
theorem d_Mo_oneFrame_98 : decode prog_13_method_58_code 98 = .ok (.ishr, 1) := by decide +kernel
theorem d_Mo_oneFrame_99 : decode prog_13_method_58_code 99 = .ok (.istore_n 3, 1) := by decide +kernel
theorem d_Mo_oneFrame_100 : decode prog_13_method_58_code 100 = .ok (.iload_n 2, 1) := by decide +kernel
theorem d_Mo_oneFrame_101 : decode prog_13_method_58_code 101 = .ok (.bipush 8, 2) := by decide +kernel
theorem d_Mo_oneFrame_103 : decode prog_13_method_58_code 103 = .ok (.ishr, 1) := by decide +kernel
theorem d_Mo_oneFrame_104 : decode prog_13_method_58_code 104 = .ok (.bipush 15, 2) := by decide +kernel
theorem d_Mo_oneFrame_106 : decode prog_13_method_58_code 106 = .ok (.iand, 1) := by decide +kernel
theorem d_Mo_oneFrame_107 : decode prog_13_method_58_code 107 = .ok (.istore 4, 2) := by decide +kernel
theorem d_Mo_oneFrame_109 : decode prog_13_method_58_code 109 = .ok (.iload_n 2, 1) := by decide +kernel
theorem d_Mo_oneFrame_110 : decode prog_13_method_58_code 110 = .ok (.iconst 4, 1) := by decide +kernel
theorem d_Mo_oneFrame_111 : decode prog_13_method_58_code 111 = .ok (.ishr, 1) := by decide +kernel
theorem d_Mo_oneFrame_112 : decode prog_13_method_58_code 112 = .ok (.bipush 15, 2) := by decide +kernel
theorem d_Mo_oneFrame_114 : decode prog_13_method_58_code 114 = .ok (.iand, 1) := by decide +kernel
theorem d_Mo_oneFrame_115 : decode prog_13_method_58_code 115 = .ok (.istore 5, 2) := by decide +kernel
theorem d_Mo_oneFrame_117 : decode prog_13_method_58_code 117 = .ok (.aload_n 0, 1) := by decide +kernel
theorem d_Mo_oneFrame_118 : decode prog_13_method_58_code 118 = .ok (.iload_n 3, 1) := by decide +kernel
theorem d_Mo_oneFrame_119 : decode prog_13_method_58_code 119 = .ok (.ifCond .le 69, 3) := by decide +kernel
theorem d_Mo_oneFrame_122 : decode prog_13_method_58_code 122 = .ok (.iload 4, 2) := by decide +kernel
theorem d_Mo_oneFrame_124 : decode prog_13_method_58_code 124 = .ok (.bipush 15, 2) := by decide +kernel
theorem d_Mo_oneFrame_126 : decode prog_13_method_58_code 126 = .ok (.if_icmp .ge 62, 3) := by decide +kernel
theorem d_Mo_oneFrame_129 : decode prog_13_method_58_code 129 = .ok (.iload 5, 2) := by decide +kernel
theorem d_Mo_oneFrame_131 : decode prog_13_method_58_code 131 = .ok (.bipush 11, 2) := by decide +kernel
theorem d_Mo_oneFrame_133 : decode prog_13_method_58_code 133 = .ok (.if_icmp .ge 55, 3) := by decide +kernel
theorem d_Mo_oneFrame_136 : decode prog_13_method_58_code 136 = .ok (.iload 5, 2) := by decide +kernel
theorem d_Mo_oneFrame_138 : decode prog_13_method_58_code 138 = .ok (.bipush 8, 2) := by decide +kernel
theorem d_Mo_oneFrame_140 : decode prog_13_method_58_code 140 = .ok (.if_icmp .ge 17, 3) := by decide +kernel
theorem d_Mo_oneFrame_143 : decode prog_13_method_58_code 143 = .ok (.iload 5, 2) := by decide +kernel
theorem d_Mo_oneFrame_145 : decode prog_13_method_58_code 145 = .ok (.iconst 1, 1) := by decide +kernel
theorem d_Mo_oneFrame_146 : decode prog_13_method_58_code 146 = .ok (.iadd, 1) := by decide +kernel
theorem d_Mo_oneFrame_147 : decode prog_13_method_58_code 147 = .ok (.aload_n 0, 1) := by decide +kernel
theorem d_Mo_oneFrame_148 : decode prog_13_method_58_code 148 = .ok (.getfield 365, 3) := by decide +kernel
theorem d_Mo_oneFrame_151 : decode prog_13_method_58_code 151 = .ok (.if_icmp .ne 37, 3) := by decide +kernel
theorem d_Mo_oneFrame_154 : decode prog_13_method_58_code 154 = .ok (.goto 11, 3) := by decide +kernel
theorem d_Mo_oneFrame_157 : decode prog_13_method_58_code 157 = .ok (.aload_n 0, 1) := by decide +kernel
theorem d_Mo_oneFrame_158 : decode prog_13_method_58_code 158 = .ok (.getfield 365, 3) := by decide +kernel
theorem d_Mo_oneFrame_161 : decode prog_13_method_58_code 161 = .ok (.iconst 2, 1) := by decide +kernel
theorem d_Mo_oneFrame_162 : decode prog_13_method_58_code 162 = .ok (.if_icmp .ne 26, 3) := by decide +kernel
theorem d_Mo_oneFrame_165 : decode prog_13_method_58_code 165 = .ok (.aload_n 0, 1) := by decide +kernel
theorem d_Mo_oneFrame_166 : decode prog_13_method_58_code 166 = .ok (.iload_n 2, 1) := by decide +kernel
theorem d_Mo_oneFrame_167 : decode prog_13_method_58_code 167 = .ok (.iconst 1, 1) := by decide +kernel
theorem d_Mo_oneFrame_168 : decode prog_13_method_58_code 168 = .ok (.ishr, 1) := by decide +kernel
theorem d_Mo_oneFrame_169 : decode prog_13_method_58_code 169 = .ok (.bipush 7, 2) := by decide +kernel
theorem d_Mo_oneFrame_171 : decode prog_13_method_58_code 171 = .ok (.iand, 1) := by decide +kernel
theorem d_Mo_oneFrame_172 : decode prog_13_method_58_code 172 = .ok (.invokevirtual 419, 3) := by decide +kernel
theorem d_Mo_oneFrame_175 : decode prog_13_method_58_code 175 = .ok (.ifCond .ne 13, 3) := by decide +kernel
theorem d_Mo_oneFrame_178 : decode prog_13_method_58_code 178 = .ok (.iload_n 2, 1) := by decide +kernel
theorem d_Mo_oneFrame_179 : decode prog_13_method_58_code 179 = .ok (.iconst 1, 1) := by decide +kernel
theorem d_Mo_oneFrame_180 : decode prog_13_method_58_code 180 = .ok (.iand, 1) := by decide +kernel
theorem d_Mo_oneFrame_181 : decode prog_13_method_58_code 181 = .ok (.ifCond .ne 7, 3) := by decide +kernel
theorem d_Mo_oneFrame_184 : decode prog_13_method_58_code 184 = .ok (.iconst 1, 1) := by decide +kernel
theorem d_Mo_oneFrame_185 : decode prog_13_method_58_code 185 = .ok (.goto 4, 3) := by decide +kernel
theorem d_Mo_oneFrame_188 : decode prog_13_method_58_code 188 = .ok (.iconst 0, 1) := by decide +kernel
theorem d_Mo_oneFrame_189 : decode prog_13_method_58_code 189 = .ok (.iconst 5, 1) := by decide +kernel
theorem d_Mo_oneFrame_190 : decode prog_13_method_58_code 190 = .ok (.invokevirtual 409, 3) := by decide +kernel
theorem d_Mo_oneFrame_193 : decode prog_13_method_58_code 193 = .ok (.aload_n 0, 1) := by decide +kernel
theorem d_Mo_oneFrame_194 : decode prog_13_method_58_code 194 = .ok (.getfield 416, 3) := by decide +kernel
theorem d_Mo_oneFrame_197 : decode prog_13_method_58_code 197 = .ok (.iconst 1, 1) := by decide +kernel
theorem d_Mo_oneFrame_198 : decode prog_13_method_58_code 198 = .ok (.if_icmp .ne 10, 3) := by decide +kernel
theorem d_Mo_oneFrame_201 : decode prog_13_method_58_code 201 = .ok (.aload_n 0, 1) := by decide +kernel
theorem d_Mo_oneFrame_202 : decode prog_13_method_58_code 202 = .ok (.getfield 377, 3) := by decide +kernel
theorem d_Mo_oneFrame_205 : decode prog_13_method_58_code 205 = .ok (.goto 7, 3) := by decide +kernel
theorem d_Mo_oneFrame_208 : decode prog_13_method_58_code 208 = .ok (.aload_n 0, 1) := by decide +kernel
theorem d_Mo_oneFrame_209 : decode prog_13_method_58_code 209 = .ok (.getfield 380, 3) := by decide +kernel
theorem d_Mo_oneFrame_212 : decode prog_13_method_58_code 212 = .ok (.istore 6, 2) := by decide +kernel
theorem d_Mo_oneFrame_214 : decode prog_13_method_58_code 214 = .ok (.iconst 0, 1) := by decide +kernel
theorem d_Mo_oneFrame_215 : decode prog_13_method_58_code 215 = .ok (.istore 7, 2) := by decide +kernel
theorem d_Mo_oneFrame_217 : decode prog_13_method_58_code 217 = .ok (.iload 6, 2) := by decide +kernel
theorem d_Mo_oneFrame_219 : decode prog_13_method_58_code 219 = .ok (.iload 7, 2) := by decide +kernel
theorem d_Mo_oneFrame_221 : decode prog_13_method_58_code 221 = .ok (.invokestatic 338, 3) := by decide +kernel
theorem d_Mo_oneFrame_224 : decode prog_13_method_58_code 224 = .ok (.ifCond .lt 48, 3) := by decide +kernel
theorem d_Mo_oneFrame_227 : decode prog_13_method_58_code 227 = .ok (.aload_n 0, 1) := by decide +kernel
theorem d_Mo_oneFrame_228 : decode prog_13_method_58_code 228 = .ok (.getfield 386, 3) := by decide +kernel
theorem d_Mo_oneFrame_231 : decode prog_13_method_58_code 231 = .ok (.ifCond .ne 41, 3) := by decide +kernel
theorem d_Mo_oneFrame_234 : decode prog_13_method_58_code 234 = .ok (.aload_n 0, 1) := by decide +kernel
theorem d_Mo_oneFrame_235 : decode prog_13_method_58_code 235 = .ok (.bipush 8, 2) := by decide +kernel
theorem d_Mo_oneFrame_237 : decode prog_13_method_58_code 237 = .ok (.invokevirtual 394, 3) := by decide +kernel
theorem d_Mo_oneFrame_240 : decode prog_13_method_58_code 240 = .ok (.l2i, 1) := by decide +kernel
theorem d_Mo_oneFrame_241 : decode prog_13_method_58_code 241 = .ok (.istore 8, 2) := by decide +kernel
theorem d_Mo_oneFrame_243 : decode prog_13_method_58_code 243 = .ok (.aload_n 0, 1) := by decide +kernel
theorem d_Mo_oneFrame_244 : decode prog_13_method_58_code 244 = .ok (.iload 8, 2) := by decide +kernel
theorem d_Mo_oneFrame_246 : decode prog_13_method_58_code 246 = .ok (.iload 6, 2) := by decide +kernel
theorem d_Mo_oneFrame_248 : decode prog_13_method_58_code 248 = .ok (.iload 7, 2) := by decide +kernel
theorem d_Mo_oneFrame_250 : decode prog_13_method_58_code 250 = .ok (.invokestatic 338, 3) := by decide +kernel
theorem d_Mo_oneFrame_253 : decode prog_13_method_58_code 253 = .ok (.if_icmp .ne 7, 3) := by decide +kernel
theorem d_Mo_oneFrame_256 : decode prog_13_method_58_code 256 = .ok (.iconst 1, 1) := by decide +kernel
theorem d_Mo_oneFrame_257 : decode prog_13_method_58_code 257 = .ok (.goto 4, 3) := by decide +kernel
theorem d_Mo_oneFrame_260 : decode prog_13_method_58_code 260 = .ok (.iconst 0, 1) := by decide +kernel
theorem d_Mo_oneFrame_261 : decode prog_13_method_58_code 261 = .ok (.bipush 6, 2) := by decide +kernel
theorem d_Mo_oneFrame_263 : decode prog_13_method_58_code 263 = .ok (.invokevirtual 409, 3) := by decide +kernel
theorem d_Mo_oneFrame_266 : decode prog_13_method_58_code 266 = .ok (.iinc 7 1, 3) := by decide +kernel
theorem d_Mo_oneFrame_269 : decode prog_13_method_58_code 269 = .ok (.goto (-52), 3) := by decide +kernel
theorem d_Mo_oneFrame_272 : decode prog_13_method_58_code 272 = .ok (.aload_n 0, 1) := by decide +kernel
theorem d_Mo_oneFrame_273 : decode prog_13_method_58_code 273 = .ok (.getfield 386, 3) := by decide +kernel
theorem d_Mo_oneFrame_276 : decode prog_13_method_58_code 276 = .ok (.ifCond .ne 11, 3) := by decide +kernel
theorem d_Mo_oneFrame_279 : decode prog_13_method_58_code 279 = .ok (.aload_n 0, 1) := by decide +kernel
theorem d_Mo_oneFrame_280 : decode prog_13_method_58_code 280 = .ok (.iload_n 3, 1) := by decide +kernel
theorem d_Mo_oneFrame_281 : decode prog_13_method_58_code 281 = .ok (.invokevirtual 422, 3) := by decide +kernel
theorem d_Mo_oneFrame_284 : decode prog_13_method_58_code 284 = .ok (.goto 4, 3) := by decide +kernel
theorem d_Mo_oneFrame_287 : decode prog_13_method_58_code 287 = .ok (.iconst 0, 1) := by decide +kernel
theorem d_Mo_oneFrame_288 : decode prog_13_method_58_code 288 = .ok (.istore 7, 2) := by decide +kernel
theorem d_Mo_oneFrame_290 : decode prog_13_method_58_code 290 = .ok (.iload 4, 2) := by decide +kernel
theorem d_Mo_oneFrame_292 : decode prog_13_method_58_code 292 = .ok (.bipush 12, 2) := by decide +kernel
theorem d_Mo_oneFrame_294 : decode prog_13_method_58_code 294 = .ok (.if_icmp .ne 12, 3) := by decide +kernel
theorem d_Mo_oneFrame_297 : decode prog_13_method_58_code 297 = .ok (.aload_n 0, 1) := by decide +kernel
theorem d_Mo_oneFrame_298 : decode prog_13_method_58_code 298 = .ok (.bipush 8, 2) := by decide +kernel
theorem d_Mo_oneFrame_300 : decode prog_13_method_58_code 300 = .ok (.invokevirtual 394, 3) := by decide +kernel
theorem d_Mo_oneFrame_303 : decode prog_13_method_58_code 303 = .ok (.goto 20, 3) := by decide +kernel
theorem d_Mo_oneFrame_306 : decode prog_13_method_58_code 306 = .ok (.iload 4, 2) := by decide +kernel
theorem d_Mo_oneFrame_308 : decode prog_13_method_58_code 308 = .ok (.bipush 12, 2) := by decide +kernel
theorem d_Mo_oneFrame_310 : decode prog_13_method_58_code 310 = .ok (.if_icmp .le 12, 3) := by decide +kernel
theorem d_Mo_oneFrame_313 : decode prog_13_method_58_code 313 = .ok (.aload_n 0, 1) := by decide +kernel
theorem d_Mo_oneFrame_314 : decode prog_13_method_58_code 314 = .ok (.bipush 16, 2) := by decide +kernel
theorem d_Mo_oneFrame_316 : decode prog_13_method_58_code 316 = .ok (.invokevirtual 394, 3) := by decide +kernel
theorem d_Mo_oneFrame_319 : decode prog_13_method_58_code 319 = .ok (.goto 4, 3) := by decide +kernel
theorem d_Mo_oneFrame_322 : decode prog_13_method_58_code 322 = .ok (.lconst 0, 1) := by decide +kernel
theorem d_Mo_oneFrame_323 : decode prog_13_method_58_code 323 = .ok (.lstore 8, 2) := by decide +kernel
theorem d_Mo_oneFrame_325 : decode prog_13_method_58_code 325 = .ok (.aload_n 0, 1) := by decide +kernel
theorem d_Mo_oneFrame_326 : decode prog_13_method_58_code 326 = .ok (.getfield 416, 3) := by decide +kernel
theorem d_Mo_oneFrame_329 : decode prog_13_method_58_code 329 = .ok (.iconst 1, 1) := by decide +kernel
theorem d_Mo_oneFrame_330 : decode prog_13_method_58_code 330 = .ok (.if_icmp .ne 10, 3) := by decide +kernel
theorem d_Mo_oneFrame_333 : decode prog_13_method_58_code 333 = .ok (.aload_n 0, 1) := by decide +kernel
theorem d_Mo_oneFrame_334 : decode prog_13_method_58_code 334 = .ok (.getfield 398, 3) := by decide +kernel
theorem d_Mo_oneFrame_337 : decode prog_13_method_58_code 337 = .ok (.goto 7, 3) := by decide +kernel
theorem d_Mo_oneFrame_340 : decode prog_13_method_58_code 340 = .ok (.aload_n 0, 1) := by decide +kernel
theorem d_Mo_oneFrame_341 : decode prog_13_method_58_code 341 = .ok (.getfield 371, 3) := by decide +kernel
theorem d_Mo_oneFrame_344 : decode prog_13_method_58_code 344 = .ok (.istore 10, 2) := by decide +kernel
theorem d_Mo_oneFrame_346 : decode prog_13_method_58_code 346 = .ok (.aload_n 0, 1) := by decide +kernel
theorem d_Mo_oneFrame_347 : decode prog_13_method_58_code 347 = .ok (.iload 7, 2) := by decide +kernel
theorem d_Mo_oneFrame_349 : decode prog_13_method_58_code 349 = .ok (.aload_n 0, 1) := by decide +kernel
theorem d_Mo_oneFrame_350 : decode prog_13_method_58_code 350 = .ok (.getfield 371, 3) := by decide +kernel
theorem d_Mo_oneFrame_353 : decode prog_13_method_58_code 353 = .ok (.if_icmp .gt 64, 3) := by decide +kernel
theorem d_Mo_oneFrame_356 : decode prog_13_method_58_code 356 = .ok (.aload_n 0, 1) := by decide +kernel
theorem d_Mo_oneFrame_357 : decode prog_13_method_58_code 357 = .ok (.getfield 380, 3) := by decide +kernel
theorem d_Mo_oneFrame_360 : decode prog_13_method_58_code 360 = .ok (.ifCond .eq 12, 3) := by decide +kernel
theorem d_Mo_oneFrame_363 : decode prog_13_method_58_code 363 = .ok (.aload_n 0, 1) := by decide +kernel
theorem d_Mo_oneFrame_364 : decode prog_13_method_58_code 364 = .ok (.getfield 425, 3) := by decide +kernel
theorem d_Mo_oneFrame_367 : decode prog_13_method_58_code 367 = .ok (.iload 10, 2) := by decide +kernel
theorem d_Mo_oneFrame_369 : decode prog_13_method_58_code 369 = .ok (.if_icmp .lt 48, 3) := by decide +kernel
theorem d_Mo_oneFrame_372 : decode prog_13_method_58_code 372 = .ok (.aload_n 0, 1) := by decide +kernel
theorem d_Mo_oneFrame_373 : decode prog_13_method_58_code 373 = .ok (.getfield 406, 3) := by decide +kernel
theorem d_Mo_oneFrame_376 : decode prog_13_method_58_code 376 = .ok (.ifCond .eq 17, 3) := by decide +kernel
theorem d_Mo_oneFrame_379 : decode prog_13_method_58_code 379 = .ok (.aload_n 0, 1) := by decide +kernel
theorem d_Mo_oneFrame_380 : decode prog_13_method_58_code 380 = .ok (.getfield 377, 3) := by decide +kernel
theorem d_Mo_oneFrame_383 : decode prog_13_method_58_code 383 = .ok (.iload 7, 2) := by decide +kernel
theorem d_Mo_oneFrame_385 : decode prog_13_method_58_code 385 = .ok (.iadd, 1) := by decide +kernel
theorem d_Mo_oneFrame_386 : decode prog_13_method_58_code 386 = .ok (.aload_n 0, 1) := by decide +kernel
theorem d_Mo_oneFrame_387 : decode prog_13_method_58_code 387 = .ok (.getfield 406, 3) := by decide +kernel
theorem d_Mo_oneFrame_390 : decode prog_13_method_58_code 390 = .ok (.if_icmp .gt 27, 3) := by decide +kernel
theorem d_Mo_oneFrame_393 : decode prog_13_method_58_code 393 = .ok (.aload_n 0, 1) := by decide +kernel
theorem d_Mo_oneFrame_394 : decode prog_13_method_58_code 394 = .ok (.getfield 377, 3) := by decide +kernel
theorem d_Mo_oneFrame_397 : decode prog_13_method_58_code 397 = .ok (.iload 7, 2) := by decide +kernel
theorem d_Mo_oneFrame_399 : decode prog_13_method_58_code 399 = .ok (.iadd, 1) := by decide +kernel
theorem d_Mo_oneFrame_400 : decode prog_13_method_58_code 400 = .ok (.sipush 1200, 3) := by decide +kernel
theorem d_Mo_oneFrame_403 : decode prog_13_method_58_code 403 = .ok (.if_icmp .gt 14, 3) := by decide +kernel
theorem d_Mo_oneFrame_406 : decode prog_13_method_58_code 406 = .ok (.lload 8, 2) := by decide +kernel
theorem d_Mo_oneFrame_408 : decode prog_13_method_58_code 408 = .ok (.lconst 0, 1) := by decide +kernel
theorem d_Mo_oneFrame_409 : decode prog_13_method_58_code 409 = .ok (.lcmp, 1) := by decide +kernel
theorem d_Mo_oneFrame_410 : decode prog_13_method_58_code 410 = .ok (.ifCond .lt 7, 3) := by decide +kernel
theorem d_Mo_oneFrame_413 : decode prog_13_method_58_code 413 = .ok (.iconst 1, 1) := by decide +kernel
theorem d_Mo_oneFrame_414 : decode prog_13_method_58_code 414 = .ok (.goto 4, 3) := by decide +kernel
theorem d_Mo_oneFrame_417 : decode prog_13_method_58_code 417 = .ok (.iconst 0, 1) := by decide +kernel
theorem d_Mo_oneFrame_418 : decode prog_13_method_58_code 418 = .ok (.bipush 7, 2) := by decide +kernel
theorem d_Mo_oneFrame_420 : decode prog_13_method_58_code 420 = .ok (.invokevirtual 409, 3) := by decide +kernel
theorem d_Mo_oneFrame_423 : decode prog_13_method_58_code 423 = .ok (.aload_n 0, 1) := by decide +kernel
theorem d_Mo_oneFrame_424 : decode prog_13_method_58_code 424 = .ok (.getfield 386, 3) := by decide +kernel
theorem d_Mo_oneFrame_427 : decode prog_13_method_58_code 427 = .ok (.ifCond .ne 25, 3) := by decide +kernel
theorem d_Mo_oneFrame_430 : decode prog_13_method_58_code 430 = .ok (.aload_n 0, 1) := by decide +kernel
theorem d_Mo_oneFrame_431 : decode prog_13_method_58_code 431 = .ok (.bipush 8, 2) := by decide +kernel
theorem d_Mo_oneFrame_433 : decode prog_13_method_58_code 433 = .ok (.aload_n 0, 1) := by decide +kernel
theorem d_Mo_oneFrame_434 : decode prog_13_method_58_code 434 = .ok (.getfield 403, 3) := by decide +kernel
theorem d_Mo_oneFrame_437 : decode prog_13_method_58_code 437 = .ok (.aload_n 0, 1) := by decide +kernel
theorem d_Mo_oneFrame_438 : decode prog_13_method_58_code 438 = .ok (.getfield 244, 3) := by decide +kernel
theorem d_Mo_oneFrame_441 : decode prog_13_method_58_code 441 = .ok (.ldc2_w 222, 3) := by decide +kernel
theorem d_Mo_oneFrame_444 : decode prog_13_method_58_code 444 = .ok (.ldiv, 1) := by decide +kernel
theorem d_Mo_oneFrame_445 : decode prog_13_method_58_code 445 = .ok (.l2i, 1) := by decide +kernel
theorem d_Mo_oneFrame_446 : decode prog_13_method_58_code 446 = .ok (.invokevirtual 341, 3) := by decide +kernel
theorem d_Mo_oneFrame_449 : decode prog_13_method_58_code 449 = .ok (.goto 4, 3) := by decide +kernel
theorem d_Mo_oneFrame_452 : decode prog_13_method_58_code 452 = .ok (.iconst 0, 1) := by decide +kernel
theorem d_Mo_oneFrame_453 : decode prog_13_method_58_code 453 = .ok (.istore 11, 2) := by decide +kernel
theorem d_Mo_oneFrame_455 : decode prog_13_method_58_code 455 = .ok (.aload_n 0, 1) := by decide +kernel
theorem d_Mo_oneFrame_456 : decode prog_13_method_58_code 456 = .ok (.bipush 8, 2) := by decide +kernel
theorem d_Mo_oneFrame_458 : decode prog_13_method_58_code 458 = .ok (.invokevirtual 394, 3) := by decide +kernel
theorem d_Mo_oneFrame_461 : decode prog_13_method_58_code 461 = .ok (.l2i, 1) := by decide +kernel
theorem d_Mo_oneFrame_462 : decode prog_13_method_58_code 462 = .ok (.istore 12, 2) := by decide +kernel
theorem d_Mo_oneFrame_464 : decode prog_13_method_58_code 464 = .ok (.aload_n 0, 1) := by decide +kernel
theorem d_Mo_oneFrame_465 : decode prog_13_method_58_code 465 = .ok (.iload 12, 2) := by decide +kernel
theorem d_Mo_oneFrame_467 : decode prog_13_method_58_code 467 = .ok (.iload 11, 2) := by decide +kernel
theorem d_Mo_oneFrame_469 : decode prog_13_method_58_code 469 = .ok (.if_icmp .ne 7, 3) := by decide +kernel
theorem d_Mo_oneFrame_472 : decode prog_13_method_58_code 472 = .ok (.iconst 1, 1) := by decide +kernel
theorem d_Mo_oneFrame_473 : decode prog_13_method_58_code 473 = .ok (.goto 4, 3) := by decide +kernel
theorem d_Mo_oneFrame_476 : decode prog_13_method_58_code 476 = .ok (.iconst 0, 1) := by decide +kernel
theorem d_Mo_oneFrame_477 : decode prog_13_method_58_code 477 = .ok (.bipush 8, 2) := by decide +kernel
theorem d_Mo_oneFrame_479 : decode prog_13_method_58_code 479 = .ok (.invokevirtual 409, 3) := by decide +kernel
theorem d_Mo_oneFrame_482 : decode prog_13_method_58_code 482 = .ok (.aload_n 0, 1) := by decide +kernel
theorem d_Mo_oneFrame_483 : decode prog_13_method_58_code 483 = .ok (.iload 5, 2) := by decide +kernel
theorem d_Mo_oneFrame_485 : decode prog_13_method_58_code 485 = .ok (.iload 7, 2) := by decide +kernel
theorem d_Mo_oneFrame_487 : decode prog_13_method_58_code 487 = .ok (.invokevirtual 428, 3) := by decide +kernel
theorem d_Mo_oneFrame_490 : decode prog_13_method_58_code 490 = .ok (.return_, 1) := by decide +kernel
theorem d_Mo_body_0 : decode prog_13_method_59_code 0 = .ok (.iconst 0, 1) := by decide +kernel
theorem d_Mo_body_1 : decode prog_13_method_59_code 1 = .ok (.istore_n 3, 1) := by decide +kernel
theorem d_Mo_body_2 : decode prog_13_method_59_code 2 = .ok (.iload_n 3, 1) := by decide +kernel
theorem d_Mo_body_3 : decode prog_13_method_59_code 3 = .ok (.aload_n 0, 1) := by decide +kernel
theorem d_Mo_body_4 : decode prog_13_method_59_code 4 = .ok (.getfield 365, 3) := by decide +kernel
theorem d_Mo_body_7 : decode prog_13_method_59_code 7 = .ok (.if_icmp .ge 76, 3) := by decide +kernel
theorem d_Mo_body_10 : decode prog_13_method_59_code 10 = .ok (.aload_n 0, 1) := by decide +kernel
theorem d_Mo_body_11 : decode prog_13_method_59_code 11 = .ok (.getfield 386, 3) := by decide +kernel
theorem d_Mo_body_14 : decode prog_13_method_59_code 14 = .ok (.ifCond .ne 69, 3) := by decide +kernel
theorem d_Mo_body_17 : decode prog_13_method_59_code 17 = .ok (.iload_n 1, 1) := by decide +kernel
theorem d_Mo_body_18 : decode prog_13_method_59_code 18 = .ok (.bipush 8, 2) := by decide +kernel
theorem d_Mo_body_20 : decode prog_13_method_59_code 20 = .ok (.if_icmp .ne 8, 3) := by decide +kernel
theorem d_Mo_body_23 : decode prog_13_method_59_code 23 = .ok (.iload_n 3, 1) := by decide +kernel
theorem d_Mo_body_24 : decode prog_13_method_59_code 24 = .ok (.iconst 1, 1) := by decide +kernel
theorem d_Mo_body_25 : decode prog_13_method_59_code 25 = .ok (.if_icmp .eq 24, 3) := by decide +kernel
theorem d_Mo_body_28 : decode prog_13_method_59_code 28 = .ok (.iload_n 1, 1) := by decide +kernel
theorem d_Mo_body_29 : decode prog_13_method_59_code 29 = .ok (.bipush 9, 2) := by decide +kernel
theorem d_Mo_body_31 : decode prog_13_method_59_code 31 = .ok (.if_icmp .ne 7, 3) := by decide +kernel
theorem d_Mo_body_34 : decode prog_13_method_59_code 34 = .ok (.iload_n 3, 1) := by decide +kernel
theorem d_Mo_body_35 : decode prog_13_method_59_code 35 = .ok (.ifCond .eq 14, 3) := by decide +kernel
theorem d_Mo_body_38 : decode prog_13_method_59_code 38 = .ok (.iload_n 1, 1) := by decide +kernel
theorem d_Mo_body_39 : decode prog_13_method_59_code 39 = .ok (.bipush 10, 2) := by decide +kernel
theorem d_Mo_body_41 : decode prog_13_method_59_code 41 = .ok (.if_icmp .ne 12, 3) := by decide +kernel
theorem d_Mo_body_44 : decode prog_13_method_59_code 44 = .ok (.iload_n 3, 1) := by decide +kernel
theorem d_Mo_body_45 : decode prog_13_method_59_code 45 = .ok (.iconst 1, 1) := by decide +kernel
theorem d_Mo_body_46 : decode prog_13_method_59_code 46 = .ok (.if_icmp .ne 7, 3) := by decide +kernel
theorem d_Mo_body_49 : decode prog_13_method_59_code 49 = .ok (.iconst 1, 1) := by decide +kernel
theorem d_Mo_body_50 : decode prog_13_method_59_code 50 = .ok (.goto 4, 3) := by decide +kernel
theorem d_Mo_body_53 : decode prog_13_method_59_code 53 = .ok (.iconst 0, 1) := by decide +kernel
theorem d_Mo_body_54 : decode prog_13_method_59_code 54 = .ok (.istore 4, 2) := by decide +kernel
theorem d_Mo_body_56 : decode prog_13_method_59_code 56 = .ok (.aload_n 0, 1) := by decide +kernel
theorem d_Mo_body_57 : decode prog_13_method_59_code 57 = .ok (.iload_n 3, 1) := by decide +kernel
theorem d_Mo_body_58 : decode prog_13_method_59_code 58 = .ok (.aload_n 0, 1) := by decide +kernel
theorem d_Mo_body_59 : decode prog_13_method_59_code 59 = .ok (.getfield 368, 3) := by decide +kernel
theorem d_Mo_body_62 : decode prog_13_method_59_code 62 = .ok (.iload 4, 2) := by decide +kernel
theorem d_Mo_body_64 : decode prog_13_method_59_code 64 = .ok (.ifCond .eq 7, 3) := by decide +kernel
theorem d_Mo_body_67 : decode prog_13_method_59_code 67 = .ok (.iconst 1, 1) := by decide +kernel
theorem d_Mo_body_68 : decode prog_13_method_59_code 68 = .ok (.goto 4, 3) := by decide +kernel
theorem d_Mo_body_71 : decode prog_13_method_59_code 71 = .ok (.iconst 0, 1) := by decide +kernel
theorem d_Mo_body_72 : decode prog_13_method_59_code 72 = .ok (.iadd, 1) := by decide +kernel
theorem d_Mo_body_73 : decode prog_13_method_59_code 73 = .ok (.iload_n 2, 1) := by decide +kernel
theorem d_Mo_body_74 : decode prog_13_method_59_code 74 = .ok (.invokevirtual 431, 3) := by decide +kernel
theorem d_Mo_body_77 : decode prog_13_method_59_code 77 = .ok (.iinc 3 1, 3) := by decide +kernel
theorem d_Mo_body_80 : decode prog_13_method_59_code 80 = .ok (.goto (-78), 3) := by decide +kernel
theorem d_Mo_body_83 : decode prog_13_method_59_code 83 = .ok (.iconst 0, 1) := by decide +kernel
theorem d_Mo_body_84 : decode prog_13_method_59_code 84 = .ok (.istore_n 3, 1) := by decide +kernel
theorem d_Mo_body_85 : decode prog_13_method_59_code 85 = .ok (.iload_n 3, 1) := by decide +kernel
theorem d_Mo_body_86 : decode prog_13_method_59_code 86 = .ok (.iload_n 2, 1) := by decide +kernel
theorem d_Mo_body_87 : decode prog_13_method_59_code 87 = .ok (.if_icmp .ge 22, 3) := by decide +kernel
theorem d_Mo_body_90 : decode prog_13_method_59_code 90 = .ok (.aload_n 0, 1) := by decide +kernel
theorem d_Mo_body_91 : decode prog_13_method_59_code 91 = .ok (.getfield 386, 3) := by decide +kernel
theorem d_Mo_body_94 : decode prog_13_method_59_code 94 = .ok (.ifCond .ne 15, 3) := by decide +kernel
theorem d_Mo_body_97 : decode prog_13_method_59_code 97 = .ok (.aload_n 0, 1) := by decide +kernel
theorem d_Mo_body_98 : decode prog_13_method_59_code 98 = .ok (.iload_n 1, 1) := by decide +kernel
theorem d_Mo_body_99 : decode prog_13_method_59_code 99 = .ok (.iload_n 3, 1) := by decide +kernel
theorem d_Mo_body_100 : decode prog_13_method_59_code 100 = .ok (.invokevirtual 434, 3) := by decide +kernel
theorem d_Mo_body_103 : decode prog_13_method_59_code 103 = .ok (.iinc 3 1, 3) := by decide +kernel
theorem d_Mo_body_106 : decode prog_13_method_59_code 106 = .ok (.goto (-21), 3) := by decide +kernel
theorem d_Mo_body_109 : decode prog_13_method_59_code 109 = .ok (.aload_n 0, 1) := by decide +kernel
theorem d_Mo_body_110 : decode prog_13_method_59_code 110 = .ok (.getfield 244, 3) := by decide +kernel
theorem d_Mo_body_113 : decode prog_13_method_59_code 113 = .ok (.ldc2_w 222, 3) := by decide +kernel
theorem d_Mo_body_116 : decode prog_13_method_59_code 116 = .ok (.lrem, 1) := by decide +kernel
theorem d_Mo_body_117 : decode prog_13_method_59_code 117 = .ok (.lconst 0, 1) := by decide +kernel
theorem d_Mo_body_118 : decode prog_13_method_59_code 118 = .ok (.lcmp, 1) := by decide +kernel
theorem d_Mo_body_119 : decode prog_13_method_59_code 119 = .ok (.ifCond .eq 34, 3) := by decide +kernel
theorem d_Mo_body_122 : decode prog_13_method_59_code 122 = .ok (.aload_n 0, 1) := by decide +kernel
theorem d_Mo_body_123 : decode prog_13_method_59_code 123 = .ok (.getfield 386, 3) := by decide +kernel
theorem d_Mo_body_126 : decode prog_13_method_59_code 126 = .ok (.ifCond .ne 27, 3) := by decide +kernel
theorem d_Mo_body_129 : decode prog_13_method_59_code 129 = .ok (.aload_n 0, 1) := by decide +kernel
theorem d_Mo_body_130 : decode prog_13_method_59_code 130 = .ok (.aload_n 0, 1) := by decide +kernel
theorem d_Mo_body_131 : decode prog_13_method_59_code 131 = .ok (.iconst 1, 1) := by decide +kernel
theorem d_Mo_body_132 : decode prog_13_method_59_code 132 = .ok (.invokevirtual 394, 3) := by decide +kernel
theorem d_Mo_body_135 : decode prog_13_method_59_code 135 = .ok (.lconst 0, 1) := by decide +kernel
theorem d_Mo_body_136 : decode prog_13_method_59_code 136 = .ok (.lcmp, 1) := by decide +kernel
theorem d_Mo_body_137 : decode prog_13_method_59_code 137 = .ok (.ifCond .ne 7, 3) := by decide +kernel
theorem d_Mo_body_140 : decode prog_13_method_59_code 140 = .ok (.iconst 1, 1) := by decide +kernel
theorem d_Mo_body_141 : decode prog_13_method_59_code 141 = .ok (.goto 4, 3) := by decide +kernel
theorem d_Mo_body_144 : decode prog_13_method_59_code 144 = .ok (.iconst 0, 1) := by decide +kernel
theorem d_Mo_body_145 : decode prog_13_method_59_code 145 = .ok (.bipush 12, 2) := by decide +kernel
theorem d_Mo_body_147 : decode prog_13_method_59_code 147 = .ok (.invokevirtual 409, 3) := by decide +kernel
theorem d_Mo_body_150 : decode prog_13_method_59_code 150 = .ok (.goto (-41), 3) := by decide +kernel
theorem d_Mo_body_153 : decode prog_13_method_59_code 153 = .ok (.aload_n 0, 1) := by decide +kernel
theorem d_Mo_body_154 : decode prog_13_method_59_code 154 = .ok (.getfield 386, 3) := by decide +kernel
theorem d_Mo_body_157 : decode prog_13_method_59_code 157 = .ok (.ifCond .ne 25, 3) := by decide +kernel
theorem d_Mo_body_160 : decode prog_13_method_59_code 160 = .ok (.aload_n 0, 1) := by decide +kernel
theorem d_Mo_body_161 : decode prog_13_method_59_code 161 = .ok (.bipush 16, 2) := by decide +kernel
theorem d_Mo_body_163 : decode prog_13_method_59_code 163 = .ok (.aload_n 0, 1) := by decide +kernel
theorem d_Mo_body_164 : decode prog_13_method_59_code 164 = .ok (.getfield 403, 3) := by decide +kernel
theorem d_Mo_body_167 : decode prog_13_method_59_code 167 = .ok (.aload_n 0, 1) := by decide +kernel
theorem d_Mo_body_168 : decode prog_13_method_59_code 168 = .ok (.getfield 244, 3) := by decide +kernel
theorem d_Mo_body_171 : decode prog_13_method_59_code 171 = .ok (.ldc2_w 222, 3) := by decide +kernel
theorem d_Mo_body_174 : decode prog_13_method_59_code 174 = .ok (.ldiv, 1) := by decide +kernel
theorem d_Mo_body_175 : decode prog_13_method_59_code 175 = .ok (.l2i, 1) := by decide +kernel
theorem d_Mo_body_176 : decode prog_13_method_59_code 176 = .ok (.invokevirtual 341, 3) := by decide +kernel
theorem d_Mo_body_179 : decode prog_13_method_59_code 179 = .ok (.goto 4, 3) := by decide +kernel
theorem d_Mo_body_182 : decode prog_13_method_59_code 182 = .ok (.iconst 0, 1) := by decide +kernel
theorem d_Mo_body_183 : decode prog_13_method_59_code 183 = .ok (.istore_n 3, 1) := by decide +kernel
theorem d_Mo_body_184 : decode prog_13_method_59_code 184 = .ok (.aload_n 0, 1) := by decide +kernel
theorem d_Mo_body_185 : decode prog_13_method_59_code 185 = .ok (.bipush 16, 2) := by decide +kernel
theorem d_Mo_body_187 : decode prog_13_method_59_code 187 = .ok (.invokevirtual 394, 3) := by decide +kernel
theorem d_Mo_body_190 : decode prog_13_method_59_code 190 = .ok (.l2i, 1) := by decide +kernel
theorem d_Mo_body_191 : decode prog_13_method_59_code 191 = .ok (.istore 4, 2) := by decide +kernel
theorem d_Mo_body_193 : decode prog_13_method_59_code 193 = .ok (.aload_n 0, 1) := by decide +kernel
theorem d_Mo_body_194 : decode prog_13_method_59_code 194 = .ok (.iload 4, 2) := by decide +kernel
theorem d_Mo_body_196 : decode prog_13_method_59_code 196 = .ok (.iload_n 3, 1) := by decide +kernel
theorem d_Mo_body_197 : decode prog_13_method_59_code 197 = .ok (.if_icmp .ne 7, 3) := by decide +kernel
theorem d_Mo_body_200 : decode prog_13_method_59_code 200 = .ok (.iconst 1, 1) := by decide +kernel
theorem d_Mo_body_201 : decode prog_13_method_59_code 201 = .ok (.goto 4, 3) := by decide +kernel
theorem d_Mo_body_204 : decode prog_13_method_59_code 204 = .ok (.iconst 0, 1) := by decide +kernel
theorem d_Mo_body_205 : decode prog_13_method_59_code 205 = .ok (.bipush 12, 2) := by decide +kernel
theorem d_Mo_body_207 : decode prog_13_method_59_code 207 = .ok (.invokevirtual 409, 3) := by decide +kernel
theorem d_Mo_body_210 : decode prog_13_method_59_code 210 = .ok (.aload_n 0, 1) := by decide +kernel
theorem d_Mo_body_211 : decode prog_13_method_59_code 211 = .ok (.getfield 386, 3) := by decide +kernel
theorem d_Mo_body_214 : decode prog_13_method_59_code 214 = .ok (.ifCond .ne 28, 3) := by decide +kernel
theorem d_Mo_body_217 : decode prog_13_method_59_code 217 = .ok (.aload_n 0, 1) := by decide +kernel
theorem d_Mo_body_218 : decode prog_13_method_59_code 218 = .ok (.aload_n 0, 1) := by decide +kernel
theorem d_Mo_body_219 : decode prog_13_method_59_code 219 = .ok (.getfield 377, 3) := by decide +kernel
theorem d_Mo_body_222 : decode prog_13_method_59_code 222 = .ok (.iload_n 2, 1) := by decide +kernel
theorem d_Mo_body_223 : decode prog_13_method_59_code 223 = .ok (.iadd, 1) := by decide +kernel
theorem d_Mo_body_224 : decode prog_13_method_59_code 224 = .ok (.putfield 377, 3) := by decide +kernel
theorem d_Mo_body_227 : decode prog_13_method_59_code 227 = .ok (.aload_n 0, 1) := by decide +kernel
theorem d_Mo_body_228 : decode prog_13_method_59_code 228 = .ok (.dup, 1) := by decide +kernel
theorem d_Mo_body_229 : decode prog_13_method_59_code 229 = .ok (.getfield 380, 3) := by decide +kernel
theorem d_Mo_body_232 : decode prog_13_method_59_code 232 = .ok (.iconst 1, 1) := by decide +kernel
theorem d_Mo_body_233 : decode prog_13_method_59_code 233 = .ok (.iadd, 1) := by decide +kernel
theorem d_Mo_body_234 : decode prog_13_method_59_code 234 = .ok (.putfield 380, 3) := by decide +kernel
theorem d_Mo_body_237 : decode prog_13_method_59_code 237 = .ok (.aload_n 0, 1) := by decide +kernel
theorem d_Mo_body_238 : decode prog_13_method_59_code 238 = .ok (.iload_n 2, 1) := by decide +kernel
theorem d_Mo_body_239 : decode prog_13_method_59_code 239 = .ok (.putfield 425, 3) := by decide +kernel
theorem d_Mo_body_242 : decode prog_13_method_59_code 242 = .ok (.return_, 1) := by decide +kernel
theorem d_Mo_combine_0 : decode prog_13_method_60_code 0 = .ok (.aload_n 0, 1) := by decide +kernel
theorem d_Mo_combine_1 : decode prog_13_method_60_code 1 = .ok (.getfield 191, 3) := by decide +kernel
theorem d_Mo_combine_4 : decode prog_13_method_60_code 4 = .ok (.iload_n 2, 1) := by decide +kernel
theorem d_Mo_combine_5 : decode prog_13_method_60_code 5 = .ok (.iaload, 1) := by decide +kernel
theorem d_Mo_combine_6 : decode prog_13_method_60_code 6 = .ok (.istore_n 3, 1) := by decide +kernel
theorem d_Mo_combine_7 : decode prog_13_method_60_code 7 = .ok (.aload_n 0, 1) := by decide +kernel
theorem d_Mo_combine_8 : decode prog_13_method_60_code 8 = .ok (.getfield 191, 3) := by decide +kernel
theorem d_Mo_combine_11 : decode prog_13_method_60_code 11 = .ok (.sipush 1200, 3) := by decide +kernel
theorem d_Mo_combine_14 : decode prog_13_method_60_code 14 = .ok (.iload_n 2, 1) := by decide +kernel
theorem d_Mo_combine_15 : decode prog_13_method_60_code 15 = .ok (.iadd, 1) := by decide +kernel
theorem d_Mo_combine_16 : decode prog_13_method_60_code 16 = .ok (.iaload, 1) := by decide +kernel
theorem d_Mo_combine_17 : decode prog_13_method_60_code 17 = .ok (.istore 4, 2) := by decide +kernel
theorem d_Mo_combine_19 : decode prog_13_method_60_code 19 = .ok (.iload_n 3, 1) := by decide +kernel
theorem d_Mo_combine_20 : decode prog_13_method_60_code 20 = .ok (.istore 5, 2) := by decide +kernel
theorem d_Mo_combine_22 : decode prog_13_method_60_code 22 = .ok (.iload 4, 2) := by decide +kernel
theorem d_Mo_combine_24 : decode prog_13_method_60_code 24 = .ok (.istore 6, 2) := by decide +kernel
theorem d_Mo_combine_26 : decode prog_13_method_60_code 26 = .ok (.iload_n 1, 1) := by decide +kernel
theorem d_Mo_combine_27 : decode prog_13_method_60_code 27 = .ok (.bipush 8, 2) := by decide +kernel
theorem d_Mo_combine_29 : decode prog_13_method_60_code 29 = .ok (.if_icmp .ne 12, 3) := by decide +kernel
theorem d_Mo_combine_32 : decode prog_13_method_60_code 32 = .ok (.iload_n 3, 1) := by decide +kernel
theorem d_Mo_combine_33 : decode prog_13_method_60_code 33 = .ok (.iload 4, 2) := by decide +kernel
theorem d_Mo_combine_35 : decode prog_13_method_60_code 35 = .ok (.isub, 1) := by decide +kernel
theorem d_Mo_combine_36 : decode prog_13_method_60_code 36 = .ok (.istore 6, 2) := by decide +kernel
theorem d_Mo_combine_38 : decode prog_13_method_60_code 38 = .ok (.goto 46, 3) := by decide +kernel
theorem d_Mo_combine_41 : decode prog_13_method_60_code 41 = .ok (.iload_n 1, 1) := by decide +kernel
theorem d_Mo_combine_42 : decode prog_13_method_60_code 42 = .ok (.bipush 9, 2) := by decide +kernel
theorem d_Mo_combine_44 : decode prog_13_method_60_code 44 = .ok (.if_icmp .ne 12, 3) := by decide +kernel
theorem d_Mo_combine_47 : decode prog_13_method_60_code 47 = .ok (.iload_n 3, 1) := by decide +kernel
theorem d_Mo_combine_48 : decode prog_13_method_60_code 48 = .ok (.iload 4, 2) := by decide +kernel
theorem d_Mo_combine_50 : decode prog_13_method_60_code 50 = .ok (.iadd, 1) := by decide +kernel
theorem d_Mo_combine_51 : decode prog_13_method_60_code 51 = .ok (.istore 5, 2) := by decide +kernel
theorem d_Mo_combine_53 : decode prog_13_method_60_code 53 = .ok (.goto 31, 3) := by decide +kernel
theorem d_Mo_combine_56 : decode prog_13_method_60_code 56 = .ok (.iload_n 1, 1) := by decide +kernel
theorem d_Mo_combine_57 : decode prog_13_method_60_code 57 = .ok (.bipush 10, 2) := by decide +kernel
theorem d_Mo_combine_59 : decode prog_13_method_60_code 59 = .ok (.if_icmp .ne 25, 3) := by decide +kernel
theorem d_Mo_combine_62 : decode prog_13_method_60_code 62 = .ok (.iconst 2, 1) := by decide +kernel
theorem d_Mo_combine_63 : decode prog_13_method_60_code 63 = .ok (.iload_n 3, 1) := by decide +kernel
theorem d_Mo_combine_64 : decode prog_13_method_60_code 64 = .ok (.imul, 1) := by decide +kernel
theorem d_Mo_combine_65 : decode prog_13_method_60_code 65 = .ok (.iload 4, 2) := by decide +kernel
theorem d_Mo_combine_67 : decode prog_13_method_60_code 67 = .ok (.iconst 1, 1) := by decide +kernel
theorem d_Mo_combine_68 : decode prog_13_method_60_code 68 = .ok (.iand, 1) := by decide +kernel
theorem d_Mo_combine_69 : decode prog_13_method_60_code 69 = .ok (.iadd, 1) := by decide +kernel
theorem d_Mo_combine_70 : decode prog_13_method_60_code 70 = .ok (.iload 4, 2) := by decide +kernel
theorem d_Mo_combine_72 : decode prog_13_method_60_code 72 = .ok (.iadd, 1) := by decide +kernel
theorem d_Mo_combine_73 : decode prog_13_method_60_code 73 = .ok (.iconst 1, 1) := by decide +kernel
theorem d_Mo_combine_74 : decode prog_13_method_60_code 74 = .ok (.ishr, 1) := by decide +kernel
theorem d_Mo_combine_75 : decode prog_13_method_60_code 75 = .ok (.istore 5, 2) := by decide +kernel
theorem d_Mo_combine_77 : decode prog_13_method_60_code 77 = .ok (.iload 5, 2) := by decide +kernel
theorem d_Mo_combine_79 : decode prog_13_method_60_code 79 = .ok (.iload 4, 2) := by decide +kernel
theorem d_Mo_combine_81 : decode prog_13_method_60_code 81 = .ok (.isub, 1) := by decide +kernel
theorem d_Mo_combine_82 : decode prog_13_method_60_code 82 = .ok (.istore 6, 2) := by decide +kernel
theorem d_Mo_combine_84 : decode prog_13_method_60_code 84 = .ok (.iconst 1, 1) := by decide +kernel
theorem d_Mo_combine_85 : decode prog_13_method_60_code 85 = .ok (.aload_n 0, 1) := by decide +kernel
theorem d_Mo_combine_86 : decode prog_13_method_60_code 86 = .ok (.getfield 368, 3) := by decide +kernel
theorem d_Mo_combine_89 : decode prog_13_method_60_code 89 = .ok (.iconst 1, 1) := by decide +kernel
theorem d_Mo_combine_90 : decode prog_13_method_60_code 90 = .ok (.isub, 1) := by decide +kernel
theorem d_Mo_combine_91 : decode prog_13_method_60_code 91 = .ok (.ishl, 1) := by decide +kernel
theorem d_Mo_combine_92 : decode prog_13_method_60_code 92 = .ok (.istore 7, 2) := by decide +kernel
theorem d_Mo_combine_94 : decode prog_13_method_60_code 94 = .ok (.aload_n 0, 1) := by decide +kernel
theorem d_Mo_combine_95 : decode prog_13_method_60_code 95 = .ok (.iload 5, 2) := by decide +kernel
theorem d_Mo_combine_97 : decode prog_13_method_60_code 97 = .ok (.iload 7, 2) := by decide +kernel
theorem d_Mo_combine_99 : decode prog_13_method_60_code 99 = .ok (.ineg, 1) := by decide +kernel
theorem d_Mo_combine_100 : decode prog_13_method_60_code 100 = .ok (.if_icmp .lt 37, 3) := by decide +kernel
theorem d_Mo_combine_103 : decode prog_13_method_60_code 103 = .ok (.iload 5, 2) := by decide +kernel
theorem d_Mo_combine_105 : decode prog_13_method_60_code 105 = .ok (.iload 7, 2) := by decide +kernel
theorem d_Mo_combine_107 : decode prog_13_method_60_code 107 = .ok (.if_icmp .ge 30, 3) := by decide +kernel
theorem d_Mo_combine_110 : decode prog_13_method_60_code 110 = .ok (.aload_n 0, 1) := by decide +kernel
theorem d_Mo_combine_111 : decode prog_13_method_60_code 111 = .ok (.getfield 365, 3) := by decide +kernel
theorem d_Mo_combine_114 : decode prog_13_method_60_code 114 = .ok (.iconst 1, 1) := by decide +kernel
theorem d_Mo_combine_115 : decode prog_13_method_60_code 115 = .ok (.if_icmp .eq 18, 3) := by decide +kernel
theorem d_Mo_combine_118 : decode prog_13_method_60_code 118 = .ok (.iload 6, 2) := by decide +kernel
theorem d_Mo_combine_120 : decode prog_13_method_60_code 120 = .ok (.iload 7, 2) := by decide +kernel
theorem d_Mo_combine_122 : decode prog_13_method_60_code 122 = .ok (.ineg, 1) := by decide +kernel
theorem d_Mo_combine_123 : decode prog_13_method_60_code 123 = .ok (.if_icmp .lt 14, 3) := by decide +kernel
theorem d_Mo_combine_126 : decode prog_13_method_60_code 126 = .ok (.iload 6, 2) := by decide +kernel
theorem d_Mo_combine_128 : decode prog_13_method_60_code 128 = .ok (.iload 7, 2) := by decide +kernel
theorem d_Mo_combine_130 : decode prog_13_method_60_code 130 = .ok (.if_icmp .ge 7, 3) := by decide +kernel
theorem d_Mo_combine_133 : decode prog_13_method_60_code 133 = .ok (.iconst 1, 1) := by decide +kernel
theorem d_Mo_combine_134 : decode prog_13_method_60_code 134 = .ok (.goto 4, 3) := by decide +kernel
theorem d_Mo_combine_137 : decode prog_13_method_60_code 137 = .ok (.iconst 0, 1) := by decide +kernel
theorem d_Mo_combine_138 : decode prog_13_method_60_code 138 = .ok (.bipush 11, 2) := by decide +kernel
theorem d_Mo_combine_140 : decode prog_13_method_60_code 140 = .ok (.invokevirtual 409, 3) := by decide +kernel
theorem d_Mo_combine_143 : decode prog_13_method_60_code 143 = .ok (.aload_n 0, 1) := by decide +kernel
theorem d_Mo_combine_144 : decode prog_13_method_60_code 144 = .ok (.getfield 188, 3) := by decide +kernel
theorem d_Mo_combine_147 : decode prog_13_method_60_code 147 = .ok (.aload_n 0, 1) := by decide +kernel
theorem d_Mo_combine_148 : decode prog_13_method_60_code 148 = .ok (.getfield 377, 3) := by decide +kernel
theorem d_Mo_combine_151 : decode prog_13_method_60_code 151 = .ok (.iload_n 2, 1) := by decide +kernel
theorem d_Mo_combine_152 : decode prog_13_method_60_code 152 = .ok (.iadd, 1) := by decide +kernel
theorem d_Mo_combine_153 : decode prog_13_method_60_code 153 = .ok (.iload 5, 2) := by decide +kernel
theorem d_Mo_combine_155 : decode prog_13_method_60_code 155 = .ok (.iastore, 1) := by decide +kernel
theorem d_Mo_combine_156 : decode prog_13_method_60_code 156 = .ok (.aload_n 0, 1) := by decide +kernel
theorem d_Mo_combine_157 : decode prog_13_method_60_code 157 = .ok (.getfield 188, 3) := by decide +kernel
theorem d_Mo_combine_160 : decode prog_13_method_60_code 160 = .ok (.sipush 1200, 3) := by decide +kernel
theorem d_Mo_combine_163 : decode prog_13_method_60_code 163 = .ok (.aload_n 0, 1) := by decide +kernel
theorem d_Mo_combine_164 : decode prog_13_method_60_code 164 = .ok (.getfield 377, 3) := by decide +kernel
theorem d_Mo_combine_167 : decode prog_13_method_60_code 167 = .ok (.iadd, 1) := by decide +kernel
theorem d_Mo_combine_168 : decode prog_13_method_60_code 168 = .ok (.iload_n 2, 1) := by decide +kernel
theorem d_Mo_combine_169 : decode prog_13_method_60_code 169 = .ok (.iadd, 1) := by decide +kernel
theorem d_Mo_combine_170 : decode prog_13_method_60_code 170 = .ok (.iload 6, 2) := by decide +kernel
theorem d_Mo_combine_172 : decode prog_13_method_60_code 172 = .ok (.iastore, 1) := by decide +kernel
theorem d_Mo_combine_173 : decode prog_13_method_60_code 173 = .ok (.return_, 1) := by decide +kernel
theorem d_Mo_isType_0 : decode prog_13_method_61_code 0 = .ok (.iload_n 0, 1) := by decide +kernel
theorem d_Mo_isType_1 : decode prog_13_method_61_code 1 = .ok (.iconst 2, 1) := by decide +kernel
theorem d_Mo_isType_2 : decode prog_13_method_61_code 2 = .ok (.if_icmp .lt 21, 3) := by decide +kernel
theorem d_Mo_isType_5 : decode prog_13_method_61_code 5 = .ok (.iload_n 0, 1) := by decide +kernel
theorem d_Mo_isType_6 : decode prog_13_method_61_code 6 = .ok (.bipush 7, 2) := by decide +kernel
theorem d_Mo_isType_8 : decode prog_13_method_61_code 8 = .ok (.if_icmp .le 9, 3) := by decide +kernel
theorem d_Mo_isType_11 : decode prog_13_method_61_code 11 = .ok (.iload_n 0, 1) := by decide +kernel
theorem d_Mo_isType_12 : decode prog_13_method_61_code 12 = .ok (.bipush 13, 2) := by decide +kernel
theorem d_Mo_isType_14 : decode prog_13_method_61_code 14 = .ok (.if_icmp .lt 9, 3) := by decide +kernel
theorem d_Mo_isType_17 : decode prog_13_method_61_code 17 = .ok (.iload_n 0, 1) := by decide +kernel
theorem d_Mo_isType_18 : decode prog_13_method_61_code 18 = .ok (.bipush 31, 2) := by decide +kernel
theorem d_Mo_isType_20 : decode prog_13_method_61_code 20 = .ok (.if_icmp .le 7, 3) := by decide +kernel
theorem d_Mo_isType_23 : decode prog_13_method_61_code 23 = .ok (.iconst 1, 1) := by decide +kernel
theorem d_Mo_isType_24 : decode prog_13_method_61_code 24 = .ok (.goto 4, 3) := by decide +kernel
theorem d_Mo_isType_27 : decode prog_13_method_61_code 27 = .ok (.iconst 0, 1) := by decide +kernel
theorem d_Mo_isType_28 : decode prog_13_method_61_code 28 = .ok (.ireturn, 1) := by decide +kernel
theorem d_Mo_wasteRead_0 : decode prog_13_method_62_code 0 = .ok (.iconst 0, 1) := by decide +kernel
theorem d_Mo_wasteRead_1 : decode prog_13_method_62_code 1 = .ok (.istore_n 2, 1) := by decide +kernel
theorem d_Mo_wasteRead_2 : decode prog_13_method_62_code 2 = .ok (.iconst 1, 1) := by decide +kernel
theorem d_Mo_wasteRead_3 : decode prog_13_method_62_code 3 = .ok (.istore_n 3, 1) := by decide +kernel
theorem d_Mo_wasteRead_4 : decode prog_13_method_62_code 4 = .ok (.iload_n 3, 1) := by decide +kernel
theorem d_Mo_wasteRead_5 : decode prog_13_method_62_code 5 = .ok (.ifCond .eq 52, 3) := by decide +kernel
theorem d_Mo_wasteRead_8 : decode prog_13_method_62_code 8 = .ok (.aload_n 0, 1) := by decide +kernel
theorem d_Mo_wasteRead_9 : decode prog_13_method_62_code 9 = .ok (.getfield 386, 3) := by decide +kernel
theorem d_Mo_wasteRead_12 : decode prog_13_method_62_code 12 = .ok (.ifCond .ne 45, 3) := by decide +kernel
theorem d_Mo_wasteRead_15 : decode prog_13_method_62_code 15 = .ok (.aload_n 0, 1) := by decide +kernel
theorem d_Mo_wasteRead_16 : decode prog_13_method_62_code 16 = .ok (.iload_n 1, 1) := by decide +kernel
theorem d_Mo_wasteRead_17 : decode prog_13_method_62_code 17 = .ok (.iload_n 2, 1) := by decide +kernel
theorem d_Mo_wasteRead_18 : decode prog_13_method_62_code 18 = .ok (.iconst 1, 1) := by decide +kernel
theorem d_Mo_wasteRead_19 : decode prog_13_method_62_code 19 = .ok (.iadd, 1) := by decide +kernel
theorem d_Mo_wasteRead_20 : decode prog_13_method_62_code 20 = .ok (.isub, 1) := by decide +kernel
theorem d_Mo_wasteRead_21 : decode prog_13_method_62_code 21 = .ok (.iconst 1, 1) := by decide +kernel
theorem d_Mo_wasteRead_22 : decode prog_13_method_62_code 22 = .ok (.if_icmp .lt 7, 3) := by decide +kernel
theorem d_Mo_wasteRead_25 : decode prog_13_method_62_code 25 = .ok (.iconst 1, 1) := by decide +kernel
theorem d_Mo_wasteRead_26 : decode prog_13_method_62_code 26 = .ok (.goto 4, 3) := by decide +kernel
theorem d_Mo_wasteRead_29 : decode prog_13_method_62_code 29 = .ok (.iconst 0, 1) := by decide +kernel
theorem d_Mo_wasteRead_30 : decode prog_13_method_62_code 30 = .ok (.bipush 9, 2) := by decide +kernel
theorem d_Mo_wasteRead_32 : decode prog_13_method_62_code 32 = .ok (.invokevirtual 409, 3) := by decide +kernel
theorem d_Mo_wasteRead_35 : decode prog_13_method_62_code 35 = .ok (.aload_n 0, 1) := by decide +kernel
theorem d_Mo_wasteRead_36 : decode prog_13_method_62_code 36 = .ok (.iconst 1, 1) := by decide +kernel
theorem d_Mo_wasteRead_37 : decode prog_13_method_62_code 37 = .ok (.invokevirtual 394, 3) := by decide +kernel
theorem d_Mo_wasteRead_40 : decode prog_13_method_62_code 40 = .ok (.lconst 0, 1) := by decide +kernel
theorem d_Mo_wasteRead_41 : decode prog_13_method_62_code 41 = .ok (.lcmp, 1) := by decide +kernel
theorem d_Mo_wasteRead_42 : decode prog_13_method_62_code 42 = .ok (.ifCond .ne 7, 3) := by decide +kernel
theorem d_Mo_wasteRead_45 : decode prog_13_method_62_code 45 = .ok (.iconst 1, 1) := by decide +kernel
theorem d_Mo_wasteRead_46 : decode prog_13_method_62_code 46 = .ok (.goto 4, 3) := by decide +kernel
theorem d_Mo_wasteRead_49 : decode prog_13_method_62_code 49 = .ok (.iconst 0, 1) := by decide +kernel
theorem d_Mo_wasteRead_50 : decode prog_13_method_62_code 50 = .ok (.istore_n 3, 1) := by decide +kernel
theorem d_Mo_wasteRead_51 : decode prog_13_method_62_code 51 = .ok (.iinc 2 1, 3) := by decide +kernel
theorem d_Mo_wasteRead_54 : decode prog_13_method_62_code 54 = .ok (.goto (-50), 3) := by decide +kernel
theorem d_Mo_wasteRead_57 : decode prog_13_method_62_code 57 = .ok (.iload_n 2, 1) := by decide +kernel
theorem d_Mo_wasteRead_58 : decode prog_13_method_62_code 58 = .ok (.ireturn, 1) := by decide +kernel
theorem d_Mo_subframe_0 : decode prog_13_method_63_code 0 = .ok (.aload_n 0, 1) := by decide +kernel
theorem d_Mo_subframe_1 : decode prog_13_method_63_code 1 = .ok (.bipush 8, 2) := by decide +kernel
theorem d_Mo_subframe_3 : decode prog_13_method_63_code 3 = .ok (.invokevirtual 394, 3) := by decide +kernel
theorem d_Mo_subframe_6 : decode prog_13_method_63_code 6 = .ok (.l2i, 1) := by decide +kernel
theorem d_Mo_subframe_7 : decode prog_13_method_63_code 7 = .ok (.istore 4, 2) := by decide +kernel
theorem d_Mo_subframe_9 : decode prog_13_method_63_code 9 = .ok (.iload 4, 2) := by decide +kernel
theorem d_Mo_subframe_11 : decode prog_13_method_63_code 11 = .ok (.iconst 1, 1) := by decide +kernel
theorem d_Mo_subframe_12 : decode prog_13_method_63_code 12 = .ok (.ishr, 1) := by decide +kernel
theorem d_Mo_subframe_13 : decode prog_13_method_63_code 13 = .ok (.bipush 63, 2) := by decide +kernel
theorem d_Mo_subframe_15 : decode prog_13_method_63_code 15 = .ok (.iand, 1) := by decide +kernel
theorem d_Mo_subframe_16 : decode prog_13_method_63_code 16 = .ok (.istore 5, 2) := by decide +kernel
theorem d_Mo_subframe_18 : decode prog_13_method_63_code 18 = .ok (.aload_n 0, 1) := by decide +kernel
theorem d_Mo_subframe_19 : decode prog_13_method_63_code 19 = .ok (.getfield 386, 3) := by decide +kernel
theorem d_Mo_subframe_22 : decode prog_13_method_63_code 22 = .ok (.ifCond .ne 30, 3) := by decide +kernel
theorem d_Mo_subframe_25 : decode prog_13_method_63_code 25 = .ok (.aload_n 0, 1) := by decide +kernel
theorem d_Mo_subframe_26 : decode prog_13_method_63_code 26 = .ok (.iload 4, 2) := by decide +kernel
theorem d_Mo_subframe_28 : decode prog_13_method_63_code 28 = .ok (.sipush 128, 3) := by decide +kernel
theorem d_Mo_subframe_31 : decode prog_13_method_63_code 31 = .ok (.if_icmp .ge 15, 3) := by decide +kernel
theorem d_Mo_subframe_34 : decode prog_13_method_63_code 34 = .ok (.iload 5, 2) := by decide +kernel
theorem d_Mo_subframe_36 : decode prog_13_method_63_code 36 = .ok (.invokestatic 437, 3) := by decide +kernel
theorem d_Mo_subframe_39 : decode prog_13_method_63_code 39 = .ok (.ifCond .eq 7, 3) := by decide +kernel
theorem d_Mo_subframe_42 : decode prog_13_method_63_code 42 = .ok (.iconst 1, 1) := by decide +kernel
theorem d_Mo_subframe_43 : decode prog_13_method_63_code 43 = .ok (.goto 4, 3) := by decide +kernel
theorem d_Mo_subframe_46 : decode prog_13_method_63_code 46 = .ok (.iconst 0, 1) := by decide +kernel
theorem d_Mo_subframe_47 : decode prog_13_method_63_code 47 = .ok (.bipush 9, 2) := by decide +kernel
theorem d_Mo_subframe_49 : decode prog_13_method_63_code 49 = .ok (.invokevirtual 409, 3) := by decide +kernel
theorem d_Mo_subframe_52 : decode prog_13_method_63_code 52 = .ok (.aload_n 0, 1) := by decide +kernel
theorem d_Mo_subframe_53 : decode prog_13_method_63_code 53 = .ok (.getfield 386, 3) := by decide +kernel
theorem d_Mo_subframe_56 : decode prog_13_method_63_code 56 = .ok (.ifCond .ne 19, 3) := by decide +kernel
theorem d_Mo_subframe_59 : decode prog_13_method_63_code 59 = .ok (.iload 4, 2) := by decide +kernel
theorem d_Mo_subframe_61 : decode prog_13_method_63_code 61 = .ok (.iconst 1, 1) := by decide +kernel
theorem d_Mo_subframe_62 : decode prog_13_method_63_code 62 = .ok (.iand, 1) := by decide +kernel
theorem d_Mo_subframe_63 : decode prog_13_method_63_code 63 = .ok (.iconst 1, 1) := by decide +kernel
theorem d_Mo_subframe_64 : decode prog_13_method_63_code 64 = .ok (.if_icmp .ne 11, 3) := by decide +kernel
theorem d_Mo_subframe_67 : decode prog_13_method_63_code 67 = .ok (.aload_n 0, 1) := by decide +kernel
theorem d_Mo_subframe_68 : decode prog_13_method_63_code 68 = .ok (.iload_n 2, 1) := by decide +kernel
theorem d_Mo_subframe_69 : decode prog_13_method_63_code 69 = .ok (.invokevirtual 440, 3) := by decide +kernel
theorem d_Mo_subframe_72 : decode prog_13_method_63_code 72 = .ok (.goto 4, 3) := by decide +kernel
theorem d_Mo_subframe_75 : decode prog_13_method_63_code 75 = .ok (.iconst 0, 1) := by decide +kernel
theorem d_Mo_subframe_76 : decode prog_13_method_63_code 76 = .ok (.istore 6, 2) := by decide +kernel
theorem d_Mo_subframe_78 : decode prog_13_method_63_code 78 = .ok (.iload_n 2, 1) := by decide +kernel
theorem d_Mo_subframe_79 : decode prog_13_method_63_code 79 = .ok (.iload 6, 2) := by decide +kernel
theorem d_Mo_subframe_81 : decode prog_13_method_63_code 81 = .ok (.isub, 1) := by decide +kernel
theorem d_Mo_subframe_82 : decode prog_13_method_63_code 82 = .ok (.istore 7, 2) := by decide +kernel
theorem d_Mo_subframe_84 : decode prog_13_method_63_code 84 = .ok (.iload 5, 2) := by decide +kernel
theorem d_Mo_subframe_86 : decode prog_13_method_63_code 86 = .ok (.bipush 31, 2) := by decide +kernel
theorem d_Mo_subframe_88 : decode prog_13_method_63_code 88 = .ok (.if_icmp .le 11, 3) := by decide +kernel
theorem d_Mo_subframe_91 : decode prog_13_method_63_code 91 = .ok (.iload 5, 2) := by decide +kernel
theorem d_Mo_subframe_93 : decode prog_13_method_63_code 93 = .ok (.bipush 31, 2) := by decide +kernel
theorem d_Mo_subframe_95 : decode prog_13_method_63_code 95 = .ok (.isub, 1) := by decide +kernel
theorem d_Mo_subframe_96 : decode prog_13_method_63_code 96 = .ok (.goto 19, 3) := by decide +kernel
theorem d_Mo_subframe_99 : decode prog_13_method_63_code 99 = .ok (.iload 5, 2) := by decide +kernel
theorem d_Mo_subframe_101 : decode prog_13_method_63_code 101 = .ok (.bipush 7, 2) := by decide +kernel
theorem d_Mo_subframe_103 : decode prog_13_method_63_code 103 = .ok (.if_icmp .le 11, 3) := by decide +kernel
theorem d_Mo_subframe_106 : decode prog_13_method_63_code 106 = .ok (.iload 5, 2) := by decide +kernel
theorem d_Mo_subframe_108 : decode prog_13_method_63_code 108 = .ok (.bipush 8, 2) := by decide +kernel
theorem d_Mo_subframe_110 : decode prog_13_method_63_code 110 = .ok (.isub, 1) := by decide +kernel
theorem d_Mo_subframe_111 : decode prog_13_method_63_code 111 = .ok (.goto 4, 3) := by decide +kernel
theorem d_Mo_subframe_114 : decode prog_13_method_63_code 114 = .ok (.iconst 0, 1) := by decide +kernel
theorem d_Mo_subframe_115 : decode prog_13_method_63_code 115 = .ok (.istore 8, 2) := by decide +kernel
theorem d_Mo_subframe_117 : decode prog_13_method_63_code 117 = .ok (.aload_n 0, 1) := by decide +kernel
theorem d_Mo_subframe_118 : decode prog_13_method_63_code 118 = .ok (.iload 8, 2) := by decide +kernel
theorem d_Mo_subframe_120 : decode prog_13_method_63_code 120 = .ok (.iload_n 3, 1) := by decide +kernel
theorem d_Mo_subframe_121 : decode prog_13_method_63_code 121 = .ok (.if_icmp .gt 7, 3) := by decide +kernel
theorem d_Mo_subframe_124 : decode prog_13_method_63_code 124 = .ok (.iconst 1, 1) := by decide +kernel
theorem d_Mo_subframe_125 : decode prog_13_method_63_code 125 = .ok (.goto 4, 3) := by decide +kernel
theorem d_Mo_subframe_128 : decode prog_13_method_63_code 128 = .ok (.iconst 0, 1) := by decide +kernel
theorem d_Mo_subframe_129 : decode prog_13_method_63_code 129 = .ok (.bipush 9, 2) := by decide +kernel
theorem d_Mo_subframe_131 : decode prog_13_method_63_code 131 = .ok (.invokevirtual 409, 3) := by decide +kernel
theorem d_Mo_subframe_134 : decode prog_13_method_63_code 134 = .ok (.iload 5, 2) := by decide +kernel
theorem d_Mo_subframe_136 : decode prog_13_method_63_code 136 = .ok (.ifCond .ne 7, 3) := by decide +kernel
theorem d_Mo_subframe_139 : decode prog_13_method_63_code 139 = .ok (.iconst 1, 1) := by decide +kernel
theorem d_Mo_subframe_140 : decode prog_13_method_63_code 140 = .ok (.goto 15, 3) := by decide +kernel
theorem d_Mo_subframe_143 : decode prog_13_method_63_code 143 = .ok (.iload 5, 2) := by decide +kernel
theorem d_Mo_subframe_145 : decode prog_13_method_63_code 145 = .ok (.iconst 1, 1) := by decide +kernel
theorem d_Mo_subframe_146 : decode prog_13_method_63_code 146 = .ok (.if_icmp .ne 7, 3) := by decide +kernel
theorem d_Mo_subframe_149 : decode prog_13_method_63_code 149 = .ok (.iload_n 3, 1) := by decide +kernel
theorem d_Mo_subframe_150 : decode prog_13_method_63_code 150 = .ok (.goto 5, 3) := by decide +kernel
theorem d_Mo_subframe_153 : decode prog_13_method_63_code 153 = .ok (.iload 8, 2) := by decide +kernel
theorem d_Mo_subframe_155 : decode prog_13_method_63_code 155 = .ok (.istore 9, 2) := by decide +kernel
theorem d_Mo_subframe_157 : decode prog_13_method_63_code 157 = .ok (.iconst 0, 1) := by decide +kernel
theorem d_Mo_subframe_158 : decode prog_13_method_63_code 158 = .ok (.istore 10, 2) := by decide +kernel
theorem d_Mo_subframe_160 : decode prog_13_method_63_code 160 = .ok (.iload 10, 2) := by decide +kernel
theorem d_Mo_subframe_162 : decode prog_13_method_63_code 162 = .ok (.iload 9, 2) := by decide +kernel
theorem d_Mo_subframe_164 : decode prog_13_method_63_code 164 = .ok (.if_icmp .ge 35, 3) := by decide +kernel
theorem d_Mo_subframe_167 : decode prog_13_method_63_code 167 = .ok (.aload_n 0, 1) := by decide +kernel
theorem d_Mo_subframe_168 : decode prog_13_method_63_code 168 = .ok (.getfield 386, 3) := by decide +kernel
theorem d_Mo_subframe_171 : decode prog_13_method_63_code 171 = .ok (.ifCond .ne 28, 3) := by decide +kernel
theorem d_Mo_subframe_174 : decode prog_13_method_63_code 174 = .ok (.aload_n 0, 1) := by decide +kernel
theorem d_Mo_subframe_175 : decode prog_13_method_63_code 175 = .ok (.getfield 191, 3) := by decide +kernel
theorem d_Mo_subframe_178 : decode prog_13_method_63_code 178 = .ok (.sipush 1200, 3) := by decide +kernel
theorem d_Mo_subframe_181 : decode prog_13_method_63_code 181 = .ok (.iload_n 1, 1) := by decide +kernel
theorem d_Mo_subframe_182 : decode prog_13_method_63_code 182 = .ok (.imul, 1) := by decide +kernel
theorem d_Mo_subframe_183 : decode prog_13_method_63_code 183 = .ok (.iload 10, 2) := by decide +kernel
theorem d_Mo_subframe_185 : decode prog_13_method_63_code 185 = .ok (.iadd, 1) := by decide +kernel
theorem d_Mo_subframe_186 : decode prog_13_method_63_code 186 = .ok (.aload_n 0, 1) := by decide +kernel
theorem d_Mo_subframe_187 : decode prog_13_method_63_code 187 = .ok (.iload 7, 2) := by decide +kernel
theorem d_Mo_subframe_189 : decode prog_13_method_63_code 189 = .ok (.invokevirtual 443, 3) := by decide +kernel
theorem d_Mo_subframe_192 : decode prog_13_method_63_code 192 = .ok (.iastore, 1) := by decide +kernel
theorem d_Mo_subframe_193 : decode prog_13_method_63_code 193 = .ok (.iinc 10 1, 3) := by decide +kernel
theorem d_Mo_subframe_196 : decode prog_13_method_63_code 196 = .ok (.goto (-36), 3) := by decide +kernel
theorem d_Mo_subframe_199 : decode prog_13_method_63_code 199 = .ok (.iload 5, 2) := by decide +kernel
theorem d_Mo_subframe_201 : decode prog_13_method_63_code 201 = .ok (.ifCond .ne 41, 3) := by decide +kernel
theorem d_Mo_subframe_204 : decode prog_13_method_63_code 204 = .ok (.iconst 1, 1) := by decide +kernel
theorem d_Mo_subframe_205 : decode prog_13_method_63_code 205 = .ok (.istore 10, 2) := by decide +kernel
theorem d_Mo_subframe_207 : decode prog_13_method_63_code 207 = .ok (.iload 10, 2) := by decide +kernel
theorem d_Mo_subframe_209 : decode prog_13_method_63_code 209 = .ok (.iload_n 3, 1) := by decide +kernel
theorem d_Mo_subframe_210 : decode prog_13_method_63_code 210 = .ok (.if_icmp .ge 32, 3) := by decide +kernel
theorem d_Mo_subframe_213 : decode prog_13_method_63_code 213 = .ok (.aload_n 0, 1) := by decide +kernel
theorem d_Mo_subframe_214 : decode prog_13_method_63_code 214 = .ok (.getfield 191, 3) := by decide +kernel
theorem d_Mo_subframe_217 : decode prog_13_method_63_code 217 = .ok (.sipush 1200, 3) := by decide +kernel
theorem d_Mo_subframe_220 : decode prog_13_method_63_code 220 = .ok (.iload_n 1, 1) := by decide +kernel
theorem d_Mo_subframe_221 : decode prog_13_method_63_code 221 = .ok (.imul, 1) := by decide +kernel
theorem d_Mo_subframe_222 : decode prog_13_method_63_code 222 = .ok (.iload 10, 2) := by decide +kernel
theorem d_Mo_subframe_224 : decode prog_13_method_63_code 224 = .ok (.iadd, 1) := by decide +kernel
theorem d_Mo_subframe_225 : decode prog_13_method_63_code 225 = .ok (.aload_n 0, 1) := by decide +kernel
theorem d_Mo_subframe_226 : decode prog_13_method_63_code 226 = .ok (.getfield 191, 3) := by decide +kernel
theorem d_Mo_subframe_229 : decode prog_13_method_63_code 229 = .ok (.sipush 1200, 3) := by decide +kernel
theorem d_Mo_subframe_232 : decode prog_13_method_63_code 232 = .ok (.iload_n 1, 1) := by decide +kernel
theorem d_Mo_subframe_233 : decode prog_13_method_63_code 233 = .ok (.imul, 1) := by decide +kernel
theorem d_Mo_subframe_234 : decode prog_13_method_63_code 234 = .ok (.iaload, 1) := by decide +kernel
theorem d_Mo_subframe_235 : decode prog_13_method_63_code 235 = .ok (.iastore, 1) := by decide +kernel
theorem d_Mo_subframe_236 : decode prog_13_method_63_code 236 = .ok (.iinc 10 1, 3) := by decide +kernel
theorem d_Mo_subframe_239 : decode prog_13_method_63_code 239 = .ok (.goto (-32), 3) := by decide +kernel
theorem d_Mo_subframe_242 : decode prog_13_method_63_code 242 = .ok (.iload 5, 2) := by decide +kernel
theorem d_Mo_subframe_244 : decode prog_13_method_63_code 244 = .ok (.bipush 7, 2) := by decide +kernel
theorem d_Mo_subframe_246 : decode prog_13_method_63_code 246 = .ok (.if_icmp .le 22, 3) := by decide +kernel
theorem d_Mo_subframe_249 : decode prog_13_method_63_code 249 = .ok (.aload_n 0, 1) := by decide +kernel
theorem d_Mo_subframe_250 : decode prog_13_method_63_code 250 = .ok (.getfield 386, 3) := by decide +kernel
theorem d_Mo_subframe_253 : decode prog_13_method_63_code 253 = .ok (.ifCond .ne 15, 3) := by decide +kernel
theorem d_Mo_subframe_256 : decode prog_13_method_63_code 256 = .ok (.aload_n 0, 1) := by decide +kernel
theorem d_Mo_subframe_257 : decode prog_13_method_63_code 257 = .ok (.iload_n 1, 1) := by decide +kernel
theorem d_Mo_subframe_258 : decode prog_13_method_63_code 258 = .ok (.iload 5, 2) := by decide +kernel
theorem d_Mo_subframe_260 : decode prog_13_method_63_code 260 = .ok (.iload 8, 2) := by decide +kernel
theorem d_Mo_subframe_262 : decode prog_13_method_63_code 262 = .ok (.iload 7, 2) := by decide +kernel
theorem d_Mo_subframe_264 : decode prog_13_method_63_code 264 = .ok (.iload_n 3, 1) := by decide +kernel
theorem d_Mo_subframe_265 : decode prog_13_method_63_code 265 = .ok (.invokevirtual 446, 3) := by decide +kernel
theorem d_Mo_subframe_268 : decode prog_13_method_63_code 268 = .ok (.iconst 0, 1) := by decide +kernel
theorem d_Mo_subframe_269 : decode prog_13_method_63_code 269 = .ok (.istore 10, 2) := by decide +kernel
theorem d_Mo_subframe_271 : decode prog_13_method_63_code 271 = .ok (.iload 10, 2) := by decide +kernel
theorem d_Mo_subframe_273 : decode prog_13_method_63_code 273 = .ok (.iload_n 3, 1) := by decide +kernel
theorem d_Mo_subframe_274 : decode prog_13_method_63_code 274 = .ok (.if_icmp .ge 45, 3) := by decide +kernel
theorem d_Mo_subframe_277 : decode prog_13_method_63_code 277 = .ok (.aload_n 0, 1) := by decide +kernel
theorem d_Mo_subframe_278 : decode prog_13_method_63_code 278 = .ok (.getfield 386, 3) := by decide +kernel
theorem d_Mo_subframe_281 : decode prog_13_method_63_code 281 = .ok (.ifCond .ne 38, 3) := by decide +kernel
theorem d_Mo_subframe_284 : decode prog_13_method_63_code 284 = .ok (.aload_n 0, 1) := by decide +kernel
theorem d_Mo_subframe_285 : decode prog_13_method_63_code 285 = .ok (.getfield 191, 3) := by decide +kernel
theorem d_Mo_subframe_288 : decode prog_13_method_63_code 288 = .ok (.sipush 1200, 3) := by decide +kernel
theorem d_Mo_subframe_291 : decode prog_13_method_63_code 291 = .ok (.iload_n 1, 1) := by decide +kernel
theorem d_Mo_subframe_292 : decode prog_13_method_63_code 292 = .ok (.imul, 1) := by decide +kernel
theorem d_Mo_subframe_293 : decode prog_13_method_63_code 293 = .ok (.iload 10, 2) := by decide +kernel
theorem d_Mo_subframe_295 : decode prog_13_method_63_code 295 = .ok (.iadd, 1) := by decide +kernel
theorem d_Mo_subframe_296 : decode prog_13_method_63_code 296 = .ok (.aload_n 0, 1) := by decide +kernel
theorem d_Mo_subframe_297 : decode prog_13_method_63_code 297 = .ok (.getfield 191, 3) := by decide +kernel
theorem d_Mo_subframe_300 : decode prog_13_method_63_code 300 = .ok (.sipush 1200, 3) := by decide +kernel
theorem d_Mo_subframe_303 : decode prog_13_method_63_code 303 = .ok (.iload_n 1, 1) := by decide +kernel
theorem d_Mo_subframe_304 : decode prog_13_method_63_code 304 = .ok (.imul, 1) := by decide +kernel
theorem d_Mo_subframe_305 : decode prog_13_method_63_code 305 = .ok (.iload 10, 2) := by decide +kernel
theorem d_Mo_subframe_307 : decode prog_13_method_63_code 307 = .ok (.iadd, 1) := by decide +kernel
theorem d_Mo_subframe_308 : decode prog_13_method_63_code 308 = .ok (.iaload, 1) := by decide +kernel
theorem d_Mo_subframe_309 : decode prog_13_method_63_code 309 = .ok (.iload 6, 2) := by decide +kernel
theorem d_Mo_subframe_311 : decode prog_13_method_63_code 311 = .ok (.ishl, 1) := by decide +kernel
theorem d_Mo_subframe_312 : decode prog_13_method_63_code 312 = .ok (.iastore, 1) := by decide +kernel
theorem d_Mo_subframe_313 : decode prog_13_method_63_code 313 = .ok (.iinc 10 1, 3) := by decide +kernel
theorem d_Mo_subframe_316 : decode prog_13_method_63_code 316 = .ok (.goto (-45), 3) := by decide +kernel
theorem d_Mo_subframe_319 : decode prog_13_method_63_code 319 = .ok (.return_, 1) := by decide +kernel
theorem d_Mo_predicted_0 : decode prog_13_method_64_code 0 = .ok (.iconst 0, 1) := by decide +kernel
theorem d_Mo_predicted_1 : decode prog_13_method_64_code 1 = .ok (.istore 6, 2) := by decide +kernel
theorem d_Mo_predicted_3 : decode prog_13_method_64_code 3 = .ok (.iload_n 2, 1) := by decide +kernel
theorem d_Mo_predicted_4 : decode prog_13_method_64_code 4 = .ok (.bipush 31, 2) := by decide +kernel
theorem d_Mo_predicted_6 : decode prog_13_method_64_code 6 = .ok (.if_icmp .le 89, 3) := by decide +kernel
theorem d_Mo_predicted_9 : decode prog_13_method_64_code 9 = .ok (.aload_n 0, 1) := by decide +kernel
theorem d_Mo_predicted_10 : decode prog_13_method_64_code 10 = .ok (.iconst 4, 1) := by decide +kernel
theorem d_Mo_predicted_11 : decode prog_13_method_64_code 11 = .ok (.invokevirtual 394, 3) := by decide +kernel
theorem d_Mo_predicted_14 : decode prog_13_method_64_code 14 = .ok (.l2i, 1) := by decide +kernel
theorem d_Mo_predicted_15 : decode prog_13_method_64_code 15 = .ok (.iconst 1, 1) := by decide +kernel
theorem d_Mo_predicted_16 : decode prog_13_method_64_code 16 = .ok (.iadd, 1) := by decide +kernel
theorem d_Mo_predicted_17 : decode prog_13_method_64_code 17 = .ok (.istore 7, 2) := by decide +kernel
theorem d_Mo_predicted_19 : decode prog_13_method_64_code 19 = .ok (.aload_n 0, 1) := by decide +kernel
theorem d_Mo_predicted_20 : decode prog_13_method_64_code 20 = .ok (.iload 7, 2) := by decide +kernel
theorem d_Mo_predicted_22 : decode prog_13_method_64_code 22 = .ok (.bipush 16, 2) := by decide +kernel
theorem d_Mo_predicted_24 : decode prog_13_method_64_code 24 = .ok (.if_icmp .ge 7, 3) := by decide +kernel
theorem d_Mo_predicted_27 : decode prog_13_method_64_code 27 = .ok (.iconst 1, 1) := by decide +kernel
theorem d_Mo_predicted_28 : decode prog_13_method_64_code 28 = .ok (.goto 4, 3) := by decide +kernel
theorem d_Mo_predicted_31 : decode prog_13_method_64_code 31 = .ok (.iconst 0, 1) := by decide +kernel
theorem d_Mo_predicted_32 : decode prog_13_method_64_code 32 = .ok (.bipush 10, 2) := by decide +kernel
theorem d_Mo_predicted_34 : decode prog_13_method_64_code 34 = .ok (.invokevirtual 409, 3) := by decide +kernel
theorem d_Mo_predicted_37 : decode prog_13_method_64_code 37 = .ok (.aload_n 0, 1) := by decide +kernel
theorem d_Mo_predicted_38 : decode prog_13_method_64_code 38 = .ok (.iconst 5, 1) := by decide +kernel
theorem d_Mo_predicted_39 : decode prog_13_method_64_code 39 = .ok (.invokevirtual 443, 3) := by decide +kernel
theorem d_Mo_predicted_42 : decode prog_13_method_64_code 42 = .ok (.istore 6, 2) := by decide +kernel
theorem d_Mo_predicted_44 : decode prog_13_method_64_code 44 = .ok (.aload_n 0, 1) := by decide +kernel
theorem d_Mo_predicted_45 : decode prog_13_method_64_code 45 = .ok (.iload 6, 2) := by decide +kernel
theorem d_Mo_predicted_47 : decode prog_13_method_64_code 47 = .ok (.ifCond .lt 7, 3) := by decide +kernel
theorem d_Mo_predicted_50 : decode prog_13_method_64_code 50 = .ok (.iconst 1, 1) := by decide +kernel
theorem d_Mo_predicted_51 : decode prog_13_method_64_code 51 = .ok (.goto 4, 3) := by decide +kernel
theorem d_Mo_predicted_54 : decode prog_13_method_64_code 54 = .ok (.iconst 0, 1) := by decide +kernel
theorem d_Mo_predicted_55 : decode prog_13_method_64_code 55 = .ok (.bipush 10, 2) := by decide +kernel
theorem d_Mo_predicted_57 : decode prog_13_method_64_code 57 = .ok (.invokevirtual 409, 3) := by decide +kernel
theorem d_Mo_predicted_60 : decode prog_13_method_64_code 60 = .ok (.iconst 0, 1) := by decide +kernel
theorem d_Mo_predicted_61 : decode prog_13_method_64_code 61 = .ok (.istore 8, 2) := by decide +kernel
theorem d_Mo_predicted_63 : decode prog_13_method_64_code 63 = .ok (.iload 8, 2) := by decide +kernel
theorem d_Mo_predicted_65 : decode prog_13_method_64_code 65 = .ok (.iload_n 3, 1) := by decide +kernel
theorem d_Mo_predicted_66 : decode prog_13_method_64_code 66 = .ok (.if_icmp .ge 29, 3) := by decide +kernel
theorem d_Mo_predicted_69 : decode prog_13_method_64_code 69 = .ok (.aload_n 0, 1) := by decide +kernel
theorem d_Mo_predicted_70 : decode prog_13_method_64_code 70 = .ok (.getfield 386, 3) := by decide +kernel
theorem d_Mo_predicted_73 : decode prog_13_method_64_code 73 = .ok (.ifCond .ne 22, 3) := by decide +kernel
theorem d_Mo_predicted_76 : decode prog_13_method_64_code 76 = .ok (.aload_n 0, 1) := by decide +kernel
theorem d_Mo_predicted_77 : decode prog_13_method_64_code 77 = .ok (.getfield 194, 3) := by decide +kernel
theorem d_Mo_predicted_80 : decode prog_13_method_64_code 80 = .ok (.iload 8, 2) := by decide +kernel
theorem d_Mo_predicted_82 : decode prog_13_method_64_code 82 = .ok (.aload_n 0, 1) := by decide +kernel
theorem d_Mo_predicted_83 : decode prog_13_method_64_code 83 = .ok (.iload 7, 2) := by decide +kernel
theorem d_Mo_predicted_85 : decode prog_13_method_64_code 85 = .ok (.invokevirtual 443, 3) := by decide +kernel
theorem d_Mo_predicted_88 : decode prog_13_method_64_code 88 = .ok (.iastore, 1) := by decide +kernel
theorem d_Mo_predicted_89 : decode prog_13_method_64_code 89 = .ok (.iinc 8 1, 3) := by decide +kernel
theorem d_Mo_predicted_92 : decode prog_13_method_64_code 92 = .ok (.goto (-29), 3) := by decide +kernel
theorem d_Mo_predicted_95 : decode prog_13_method_64_code 95 = .ok (.aload_n 0, 1) := by decide +kernel
theorem d_Mo_predicted_96 : decode prog_13_method_64_code 96 = .ok (.iconst 2, 1) := by decide +kernel
theorem d_Mo_predicted_97 : decode prog_13_method_64_code 97 = .ok (.invokevirtual 394, 3) := by decide +kernel
theorem d_Mo_predicted_100 : decode prog_13_method_64_code 100 = .ok (.l2i, 1) := by decide +kernel
theorem d_Mo_predicted_101 : decode prog_13_method_64_code 101 = .ok (.istore 7, 2) := by decide +kernel
theorem d_Mo_predicted_103 : decode prog_13_method_64_code 103 = .ok (.aload_n 0, 1) := by decide +kernel
theorem d_Mo_predicted_104 : decode prog_13_method_64_code 104 = .ok (.iload 7, 2) := by decide +kernel
theorem d_Mo_predicted_106 : decode prog_13_method_64_code 106 = .ok (.iconst 2, 1) := by decide +kernel
theorem d_Mo_predicted_107 : decode prog_13_method_64_code 107 = .ok (.if_icmp .ge 7, 3) := by decide +kernel
theorem d_Mo_predicted_110 : decode prog_13_method_64_code 110 = .ok (.iconst 1, 1) := by decide +kernel
theorem d_Mo_predicted_111 : decode prog_13_method_64_code 111 = .ok (.goto 4, 3) := by decide +kernel
theorem d_Mo_predicted_114 : decode prog_13_method_64_code 114 = .ok (.iconst 0, 1) := by decide +kernel
theorem d_Mo_predicted_115 : decode prog_13_method_64_code 115 = .ok (.bipush 10, 2) := by decide +kernel
theorem d_Mo_predicted_117 : decode prog_13_method_64_code 117 = .ok (.invokevirtual 409, 3) := by decide +kernel
theorem d_Mo_predicted_120 : decode prog_13_method_64_code 120 = .ok (.aload_n 0, 1) := by decide +kernel
theorem d_Mo_predicted_121 : decode prog_13_method_64_code 121 = .ok (.iconst 4, 1) := by decide +kernel
theorem d_Mo_predicted_122 : decode prog_13_method_64_code 122 = .ok (.invokevirtual 394, 3) := by decide +kernel
theorem d_Mo_predicted_125 : decode prog_13_method_64_code 125 = .ok (.l2i, 1) := by decide +kernel
theorem d_Mo_predicted_126 : decode prog_13_method_64_code 126 = .ok (.istore 8, 2) := by decide +kernel
theorem d_Mo_predicted_128 : decode prog_13_method_64_code 128 = .ok (.aload_n 0, 1) := by decide +kernel
theorem d_Mo_predicted_129 : decode prog_13_method_64_code 129 = .ok (.iload 5, 2) := by decide +kernel
theorem d_Mo_predicted_131 : decode prog_13_method_64_code 131 = .ok (.iconst 1, 1) := by decide +kernel
theorem d_Mo_predicted_132 : decode prog_13_method_64_code 132 = .ok (.iload 8, 2) := by decide +kernel
theorem d_Mo_predicted_134 : decode prog_13_method_64_code 134 = .ok (.ishl, 1) := by decide +kernel
theorem d_Mo_predicted_135 : decode prog_13_method_64_code 135 = .ok (.irem, 1) := by decide +kernel
theorem d_Mo_predicted_136 : decode prog_13_method_64_code 136 = .ok (.ifCond .ne 16, 3) := by decide +kernel
theorem d_Mo_predicted_139 : decode prog_13_method_64_code 139 = .ok (.iload 5, 2) := by decide +kernel
theorem d_Mo_predicted_141 : decode prog_13_method_64_code 141 = .ok (.iload 8, 2) := by decide +kernel
theorem d_Mo_predicted_143 : decode prog_13_method_64_code 143 = .ok (.ishr, 1) := by decide +kernel
theorem d_Mo_predicted_144 : decode prog_13_method_64_code 144 = .ok (.iload_n 3, 1) := by decide +kernel
theorem d_Mo_predicted_145 : decode prog_13_method_64_code 145 = .ok (.if_icmp .lt 7, 3) := by decide +kernel
theorem d_Mo_predicted_148 : decode prog_13_method_64_code 148 = .ok (.iconst 1, 1) := by decide +kernel
theorem d_Mo_predicted_149 : decode prog_13_method_64_code 149 = .ok (.goto 4, 3) := by decide +kernel
theorem d_Mo_predicted_152 : decode prog_13_method_64_code 152 = .ok (.iconst 0, 1) := by decide +kernel
theorem d_Mo_predicted_153 : decode prog_13_method_64_code 153 = .ok (.bipush 10, 2) := by decide +kernel
theorem d_Mo_predicted_155 : decode prog_13_method_64_code 155 = .ok (.invokevirtual 409, 3) := by decide +kernel
theorem d_Mo_predicted_158 : decode prog_13_method_64_code 158 = .ok (.iconst 0, 1) := by decide +kernel
theorem d_Mo_predicted_159 : decode prog_13_method_64_code 159 = .ok (.istore 9, 2) := by decide +kernel
theorem d_Mo_predicted_161 : decode prog_13_method_64_code 161 = .ok (.iload 9, 2) := by decide +kernel
theorem d_Mo_predicted_163 : decode prog_13_method_64_code 163 = .ok (.iconst 1, 1) := by decide +kernel
theorem d_Mo_predicted_164 : decode prog_13_method_64_code 164 = .ok (.iload 8, 2) := by decide +kernel
theorem d_Mo_predicted_166 : decode prog_13_method_64_code 166 = .ok (.ishl, 1) := by decide +kernel
theorem d_Mo_predicted_167 : decode prog_13_method_64_code 167 = .ok (.if_icmp .ge 187, 3) := by decide +kernel
theorem d_Mo_predicted_170 : decode prog_13_method_64_code 170 = .ok (.aload_n 0, 1) := by decide +kernel
theorem d_Mo_predicted_171 : decode prog_13_method_64_code 171 = .ok (.getfield 386, 3) := by decide +kernel
theorem d_Mo_predicted_174 : decode prog_13_method_64_code 174 = .ok (.ifCond .ne 180, 3) := by decide +kernel
theorem d_Mo_predicted_177 : decode prog_13_method_64_code 177 = .ok (.aload_n 0, 1) := by decide +kernel
theorem d_Mo_predicted_178 : decode prog_13_method_64_code 178 = .ok (.iconst 4, 1) := by decide +kernel
theorem d_Mo_predicted_179 : decode prog_13_method_64_code 179 = .ok (.iload 7, 2) := by decide +kernel
theorem d_Mo_predicted_181 : decode prog_13_method_64_code 181 = .ok (.iadd, 1) := by decide +kernel
theorem d_Mo_predicted_182 : decode prog_13_method_64_code 182 = .ok (.invokevirtual 394, 3) := by decide +kernel
theorem d_Mo_predicted_185 : decode prog_13_method_64_code 185 = .ok (.l2i, 1) := by decide +kernel
theorem d_Mo_predicted_186 : decode prog_13_method_64_code 186 = .ok (.istore 10, 2) := by decide +kernel
theorem d_Mo_predicted_188 : decode prog_13_method_64_code 188 = .ok (.iload 10, 2) := by decide +kernel
theorem d_Mo_predicted_190 : decode prog_13_method_64_code 190 = .ok (.iload 7, 2) := by decide +kernel
theorem d_Mo_predicted_192 : decode prog_13_method_64_code 192 = .ok (.ifCond .ne 8, 3) := by decide +kernel
theorem d_Mo_predicted_195 : decode prog_13_method_64_code 195 = .ok (.bipush 15, 2) := by decide +kernel
theorem d_Mo_predicted_197 : decode prog_13_method_64_code 197 = .ok (.goto 5, 3) := by decide +kernel
theorem d_Mo_predicted_200 : decode prog_13_method_64_code 200 = .ok (.bipush 31, 2) := by decide +kernel
theorem d_Mo_predicted_202 : decode prog_13_method_64_code 202 = .ok (.if_icmp .ne 12, 3) := by decide +kernel
theorem d_Mo_predicted_205 : decode prog_13_method_64_code 205 = .ok (.aload_n 0, 1) := by decide +kernel
theorem d_Mo_predicted_206 : decode prog_13_method_64_code 206 = .ok (.iconst 5, 1) := by decide +kernel
theorem d_Mo_predicted_207 : decode prog_13_method_64_code 207 = .ok (.invokevirtual 394, 3) := by decide +kernel
theorem d_Mo_predicted_210 : decode prog_13_method_64_code 210 = .ok (.l2i, 1) := by decide +kernel
theorem d_Mo_predicted_211 : decode prog_13_method_64_code 211 = .ok (.goto 4, 3) := by decide +kernel
theorem d_Mo_predicted_214 : decode prog_13_method_64_code 214 = .ok (.iconst (-1), 1) := by decide +kernel
theorem d_Mo_predicted_215 : decode prog_13_method_64_code 215 = .ok (.istore 11, 2) := by decide +kernel
theorem d_Mo_predicted_217 : decode prog_13_method_64_code 217 = .ok (.iload 9, 2) := by decide +kernel
theorem d_Mo_predicted_219 : decode prog_13_method_64_code 219 = .ok (.iload 8, 2) := by decide +kernel
theorem d_Mo_predicted_221 : decode prog_13_method_64_code 221 = .ok (.iload_n 3, 1) := by decide +kernel
theorem d_Mo_predicted_222 : decode prog_13_method_64_code 222 = .ok (.iload 5, 2) := by decide +kernel
theorem d_Mo_predicted_224 : decode prog_13_method_64_code 224 = .ok (.invokestatic 275, 3) := by decide +kernel
theorem d_Mo_predicted_227 : decode prog_13_method_64_code 227 = .ok (.istore 12, 2) := by decide +kernel
theorem d_Mo_predicted_229 : decode prog_13_method_64_code 229 = .ok (.iload 12, 2) := by decide +kernel
theorem d_Mo_predicted_231 : decode prog_13_method_64_code 231 = .ok (.iload 9, 2) := by decide +kernel
theorem d_Mo_predicted_233 : decode prog_13_method_64_code 233 = .ok (.iconst 1, 1) := by decide +kernel
theorem d_Mo_predicted_234 : decode prog_13_method_64_code 234 = .ok (.iadd, 1) := by decide +kernel
theorem d_Mo_predicted_235 : decode prog_13_method_64_code 235 = .ok (.iload 5, 2) := by decide +kernel
theorem d_Mo_predicted_237 : decode prog_13_method_64_code 237 = .ok (.iload 8, 2) := by decide +kernel
theorem d_Mo_predicted_239 : decode prog_13_method_64_code 239 = .ok (.ishr, 1) := by decide +kernel
theorem d_Mo_predicted_240 : decode prog_13_method_64_code 240 = .ok (.imul, 1) := by decide +kernel
theorem d_Mo_predicted_241 : decode prog_13_method_64_code 241 = .ok (.if_icmp .ge 107, 3) := by decide +kernel
theorem d_Mo_predicted_244 : decode prog_13_method_64_code 244 = .ok (.aload_n 0, 1) := by decide +kernel
theorem d_Mo_predicted_245 : decode prog_13_method_64_code 245 = .ok (.getfield 386, 3) := by decide +kernel
theorem d_Mo_predicted_248 : decode prog_13_method_64_code 248 = .ok (.ifCond .ne 100, 3) := by decide +kernel
theorem d_Mo_predicted_251 : decode prog_13_method_64_code 251 = .ok (.iload 11, 2) := by decide +kernel
theorem d_Mo_predicted_253 : decode prog_13_method_64_code 253 = .ok (.ifCond .lt 13, 3) := by decide +kernel
theorem d_Mo_predicted_256 : decode prog_13_method_64_code 256 = .ok (.aload_n 0, 1) := by decide +kernel
theorem d_Mo_predicted_257 : decode prog_13_method_64_code 257 = .ok (.iload 11, 2) := by decide +kernel
theorem d_Mo_predicted_259 : decode prog_13_method_64_code 259 = .ok (.invokevirtual 443, 3) := by decide +kernel
theorem d_Mo_predicted_262 : decode prog_13_method_64_code 262 = .ok (.i2l, 1) := by decide +kernel
theorem d_Mo_predicted_263 : decode prog_13_method_64_code 263 = .ok (.goto 9, 3) := by decide +kernel
theorem d_Mo_predicted_266 : decode prog_13_method_64_code 266 = .ok (.aload_n 0, 1) := by decide +kernel
theorem d_Mo_predicted_267 : decode prog_13_method_64_code 267 = .ok (.iload 10, 2) := by decide +kernel
theorem d_Mo_predicted_269 : decode prog_13_method_64_code 269 = .ok (.invokevirtual 450, 3) := by decide +kernel
theorem d_Mo_predicted_272 : decode prog_13_method_64_code 272 = .ok (.lstore 13, 2) := by decide +kernel
theorem d_Mo_predicted_274 : decode prog_13_method_64_code 274 = .ok (.aload_n 0, 1) := by decide +kernel
theorem d_Mo_predicted_275 : decode prog_13_method_64_code 275 = .ok (.iload_n 1, 1) := by decide +kernel
theorem d_Mo_predicted_276 : decode prog_13_method_64_code 276 = .ok (.iload_n 2, 1) := by decide +kernel
theorem d_Mo_predicted_277 : decode prog_13_method_64_code 277 = .ok (.iload_n 3, 1) := by decide +kernel
theorem d_Mo_predicted_278 : decode prog_13_method_64_code 278 = .ok (.iload 6, 2) := by decide +kernel
theorem d_Mo_predicted_280 : decode prog_13_method_64_code 280 = .ok (.iload 12, 2) := by decide +kernel
theorem d_Mo_predicted_282 : decode prog_13_method_64_code 282 = .ok (.invokevirtual 453, 3) := by decide +kernel
theorem d_Mo_predicted_285 : decode prog_13_method_64_code 285 = .ok (.lload 13, 2) := by decide +kernel
theorem d_Mo_predicted_287 : decode prog_13_method_64_code 287 = .ok (.ladd, 1) := by decide +kernel
theorem d_Mo_predicted_288 : decode prog_13_method_64_code 288 = .ok (.lstore 15, 2) := by decide +kernel
theorem d_Mo_predicted_290 : decode prog_13_method_64_code 290 = .ok (.aload_n 0, 1) := by decide +kernel
theorem d_Mo_predicted_291 : decode prog_13_method_64_code 291 = .ok (.lload 15, 2) := by decide +kernel
theorem d_Mo_predicted_293 : decode prog_13_method_64_code 293 = .ok (.lconst 1, 1) := by decide +kernel
theorem d_Mo_predicted_294 : decode prog_13_method_64_code 294 = .ok (.iload 4, 2) := by decide +kernel
theorem d_Mo_predicted_296 : decode prog_13_method_64_code 296 = .ok (.iconst 1, 1) := by decide +kernel
theorem d_Mo_predicted_297 : decode prog_13_method_64_code 297 = .ok (.isub, 1) := by decide +kernel
theorem d_Mo_predicted_298 : decode prog_13_method_64_code 298 = .ok (.lshl, 1) := by decide +kernel
theorem d_Mo_predicted_299 : decode prog_13_method_64_code 299 = .ok (.lneg, 1) := by decide +kernel
theorem d_Mo_predicted_300 : decode prog_13_method_64_code 300 = .ok (.lcmp, 1) := by decide +kernel
theorem d_Mo_predicted_301 : decode prog_13_method_64_code 301 = .ok (.ifCond .lt 19, 3) := by decide +kernel
theorem d_Mo_predicted_304 : decode prog_13_method_64_code 304 = .ok (.lload 15, 2) := by decide +kernel
theorem d_Mo_predicted_306 : decode prog_13_method_64_code 306 = .ok (.lconst 1, 1) := by decide +kernel
theorem d_Mo_predicted_307 : decode prog_13_method_64_code 307 = .ok (.iload 4, 2) := by decide +kernel
theorem d_Mo_predicted_309 : decode prog_13_method_64_code 309 = .ok (.iconst 1, 1) := by decide +kernel
theorem d_Mo_predicted_310 : decode prog_13_method_64_code 310 = .ok (.isub, 1) := by decide +kernel
theorem d_Mo_predicted_311 : decode prog_13_method_64_code 311 = .ok (.lshl, 1) := by decide +kernel
theorem d_Mo_predicted_312 : decode prog_13_method_64_code 312 = .ok (.lcmp, 1) := by decide +kernel
theorem d_Mo_predicted_313 : decode prog_13_method_64_code 313 = .ok (.ifCond .ge 7, 3) := by decide +kernel
theorem d_Mo_predicted_316 : decode prog_13_method_64_code 316 = .ok (.iconst 1, 1) := by decide +kernel
theorem d_Mo_predicted_317 : decode prog_13_method_64_code 317 = .ok (.goto 4, 3) := by decide +kernel
theorem d_Mo_predicted_320 : decode prog_13_method_64_code 320 = .ok (.iconst 0, 1) := by decide +kernel
theorem d_Mo_predicted_321 : decode prog_13_method_64_code 321 = .ok (.bipush 11, 2) := by decide +kernel
theorem d_Mo_predicted_323 : decode prog_13_method_64_code 323 = .ok (.invokevirtual 409, 3) := by decide +kernel
theorem d_Mo_predicted_326 : decode prog_13_method_64_code 326 = .ok (.aload_n 0, 1) := by decide +kernel
theorem d_Mo_predicted_327 : decode prog_13_method_64_code 327 = .ok (.getfield 191, 3) := by decide +kernel
theorem d_Mo_predicted_330 : decode prog_13_method_64_code 330 = .ok (.sipush 1200, 3) := by decide +kernel
theorem d_Mo_predicted_333 : decode prog_13_method_64_code 333 = .ok (.iload_n 1, 1) := by decide +kernel
theorem d_Mo_predicted_334 : decode prog_13_method_64_code 334 = .ok (.imul, 1) := by decide +kernel
theorem d_Mo_predicted_335 : decode prog_13_method_64_code 335 = .ok (.iload 12, 2) := by decide +kernel
theorem d_Mo_predicted_337 : decode prog_13_method_64_code 337 = .ok (.iadd, 1) := by decide +kernel
theorem d_Mo_predicted_338 : decode prog_13_method_64_code 338 = .ok (.lload 15, 2) := by decide +kernel
theorem d_Mo_predicted_340 : decode prog_13_method_64_code 340 = .ok (.l2i, 1) := by decide +kernel
theorem d_Mo_predicted_341 : decode prog_13_method_64_code 341 = .ok (.iastore, 1) := by decide +kernel
theorem d_Mo_predicted_342 : decode prog_13_method_64_code 342 = .ok (.iinc 12 1, 3) := by decide +kernel
theorem d_Mo_predicted_345 : decode prog_13_method_64_code 345 = .ok (.goto (-116), 3) := by decide +kernel
theorem d_Mo_predicted_348 : decode prog_13_method_64_code 348 = .ok (.iinc 9 1, 3) := by decide +kernel
theorem d_Mo_predicted_351 : decode prog_13_method_64_code 351 = .ok (.goto (-190), 3) := by decide +kernel
theorem d_Mo_predicted_354 : decode prog_13_method_64_code 354 = .ok (.return_, 1) := by decide +kernel
theorem d_Mo_nextFolded_0 : decode prog_13_method_65_code 0 = .ok (.lconst 0, 1) := by decide +kernel
theorem d_Mo_nextFolded_1 : decode prog_13_method_65_code 1 = .ok (.lstore_n 2, 1) := by decide +kernel
theorem d_Mo_nextFolded_2 : decode prog_13_method_65_code 2 = .ok (.aload_n 0, 1) := by decide +kernel
theorem d_Mo_nextFolded_3 : decode prog_13_method_65_code 3 = .ok (.getfield 386, 3) := by decide +kernel
theorem d_Mo_nextFolded_6 : decode prog_13_method_65_code 6 = .ok (.ifCond .ne 48, 3) := by decide +kernel
theorem d_Mo_nextFolded_9 : decode prog_13_method_65_code 9 = .ok (.aload_n 0, 1) := by decide +kernel
theorem d_Mo_nextFolded_10 : decode prog_13_method_65_code 10 = .ok (.iconst 1, 1) := by decide +kernel
theorem d_Mo_nextFolded_11 : decode prog_13_method_65_code 11 = .ok (.invokevirtual 394, 3) := by decide +kernel
theorem d_Mo_nextFolded_14 : decode prog_13_method_65_code 14 = .ok (.lconst 0, 1) := by decide +kernel
theorem d_Mo_nextFolded_15 : decode prog_13_method_65_code 15 = .ok (.lcmp, 1) := by decide +kernel
theorem d_Mo_nextFolded_16 : decode prog_13_method_65_code 16 = .ok (.ifCond .ne 38, 3) := by decide +kernel
theorem d_Mo_nextFolded_19 : decode prog_13_method_65_code 19 = .ok (.aload_n 0, 1) := by decide +kernel
theorem d_Mo_nextFolded_20 : decode prog_13_method_65_code 20 = .ok (.getfield 386, 3) := by decide +kernel
theorem d_Mo_nextFolded_23 : decode prog_13_method_65_code 23 = .ok (.ifCond .ne 31, 3) := by decide +kernel
theorem d_Mo_nextFolded_26 : decode prog_13_method_65_code 26 = .ok (.lload_n 2, 1) := by decide +kernel
theorem d_Mo_nextFolded_27 : decode prog_13_method_65_code 27 = .ok (.lconst 1, 1) := by decide +kernel
theorem d_Mo_nextFolded_28 : decode prog_13_method_65_code 28 = .ok (.ladd, 1) := by decide +kernel
theorem d_Mo_nextFolded_29 : decode prog_13_method_65_code 29 = .ok (.lstore_n 2, 1) := by decide +kernel
theorem d_Mo_nextFolded_30 : decode prog_13_method_65_code 30 = .ok (.aload_n 0, 1) := by decide +kernel
theorem d_Mo_nextFolded_31 : decode prog_13_method_65_code 31 = .ok (.lload_n 2, 1) := by decide +kernel
theorem d_Mo_nextFolded_32 : decode prog_13_method_65_code 32 = .ok (.iload_n 1, 1) := by decide +kernel
theorem d_Mo_nextFolded_33 : decode prog_13_method_65_code 33 = .ok (.lshl, 1) := by decide +kernel
theorem d_Mo_nextFolded_34 : decode prog_13_method_65_code 34 = .ok (.ldc2_w 457, 3) := by decide +kernel
theorem d_Mo_nextFolded_37 : decode prog_13_method_65_code 37 = .ok (.lcmp, 1) := by decide +kernel
theorem d_Mo_nextFolded_38 : decode prog_13_method_65_code 38 = .ok (.ifCond .ge 7, 3) := by decide +kernel
theorem d_Mo_nextFolded_41 : decode prog_13_method_65_code 41 = .ok (.iconst 1, 1) := by decide +kernel
theorem d_Mo_nextFolded_42 : decode prog_13_method_65_code 42 = .ok (.goto 4, 3) := by decide +kernel
theorem d_Mo_nextFolded_45 : decode prog_13_method_65_code 45 = .ok (.iconst 0, 1) := by decide +kernel
theorem d_Mo_nextFolded_46 : decode prog_13_method_65_code 46 = .ok (.bipush 11, 2) := by decide +kernel
theorem d_Mo_nextFolded_48 : decode prog_13_method_65_code 48 = .ok (.invokevirtual 409, 3) := by decide +kernel
theorem d_Mo_nextFolded_51 : decode prog_13_method_65_code 51 = .ok (.goto (-49), 3) := by decide +kernel
theorem d_Mo_nextFolded_54 : decode prog_13_method_65_code 54 = .ok (.lload_n 2, 1) := by decide +kernel
theorem d_Mo_nextFolded_55 : decode prog_13_method_65_code 55 = .ok (.iload_n 1, 1) := by decide +kernel
theorem d_Mo_nextFolded_56 : decode prog_13_method_65_code 56 = .ok (.lshl, 1) := by decide +kernel
theorem d_Mo_nextFolded_57 : decode prog_13_method_65_code 57 = .ok (.aload_n 0, 1) := by decide +kernel
theorem d_Mo_nextFolded_58 : decode prog_13_method_65_code 58 = .ok (.iload_n 1, 1) := by decide +kernel
theorem d_Mo_nextFolded_59 : decode prog_13_method_65_code 59 = .ok (.invokevirtual 394, 3) := by decide +kernel
theorem d_Mo_nextFolded_62 : decode prog_13_method_65_code 62 = .ok (.ladd, 1) := by decide +kernel
theorem d_Mo_nextFolded_63 : decode prog_13_method_65_code 63 = .ok (.lstore 4, 2) := by decide +kernel
theorem d_Mo_nextFolded_65 : decode prog_13_method_65_code 65 = .ok (.lload 4, 2) := by decide +kernel
theorem d_Mo_nextFolded_67 : decode prog_13_method_65_code 67 = .ok (.ldc2_w 392, 3) := by decide +kernel
theorem d_Mo_nextFolded_70 : decode prog_13_method_65_code 70 = .ok (.lrem, 1) := by decide +kernel
theorem d_Mo_nextFolded_71 : decode prog_13_method_65_code 71 = .ok (.lconst 0, 1) := by decide +kernel
theorem d_Mo_nextFolded_72 : decode prog_13_method_65_code 72 = .ok (.lcmp, 1) := by decide +kernel
theorem d_Mo_nextFolded_73 : decode prog_13_method_65_code 73 = .ok (.ifCond .ne 12, 3) := by decide +kernel
theorem d_Mo_nextFolded_76 : decode prog_13_method_65_code 76 = .ok (.lload 4, 2) := by decide +kernel
theorem d_Mo_nextFolded_78 : decode prog_13_method_65_code 78 = .ok (.ldc2_w 392, 3) := by decide +kernel
theorem d_Mo_nextFolded_81 : decode prog_13_method_65_code 81 = .ok (.ldiv, 1) := by decide +kernel
theorem d_Mo_nextFolded_82 : decode prog_13_method_65_code 82 = .ok (.goto 12, 3) := by decide +kernel
theorem d_Mo_nextFolded_85 : decode prog_13_method_65_code 85 = .ok (.lload 4, 2) := by decide +kernel
theorem d_Mo_nextFolded_87 : decode prog_13_method_65_code 87 = .ok (.lconst 1, 1) := by decide +kernel
theorem d_Mo_nextFolded_88 : decode prog_13_method_65_code 88 = .ok (.ladd, 1) := by decide +kernel
theorem d_Mo_nextFolded_89 : decode prog_13_method_65_code 89 = .ok (.lneg, 1) := by decide +kernel
theorem d_Mo_nextFolded_90 : decode prog_13_method_65_code 90 = .ok (.ldc2_w 392, 3) := by decide +kernel
theorem d_Mo_nextFolded_93 : decode prog_13_method_65_code 93 = .ok (.ldiv, 1) := by decide +kernel
theorem d_Mo_nextFolded_94 : decode prog_13_method_65_code 94 = .ok (.lreturn, 1) := by decide +kernel
theorem d_Mo_guess_0 : decode prog_13_method_66_code 0 = .ok (.sipush 1200, 3) := by decide +kernel
theorem d_Mo_guess_3 : decode prog_13_method_66_code 3 = .ok (.iload_n 1, 1) := by decide +kernel
theorem d_Mo_guess_4 : decode prog_13_method_66_code 4 = .ok (.imul, 1) := by decide +kernel
theorem d_Mo_guess_5 : decode prog_13_method_66_code 5 = .ok (.iload 5, 2) := by decide +kernel
theorem d_Mo_guess_7 : decode prog_13_method_66_code 7 = .ok (.iadd, 1) := by decide +kernel
theorem d_Mo_guess_8 : decode prog_13_method_66_code 8 = .ok (.istore 6, 2) := by decide +kernel
theorem d_Mo_guess_10 : decode prog_13_method_66_code 10 = .ok (.iload_n 2, 1) := by decide +kernel
theorem d_Mo_guess_11 : decode prog_13_method_66_code 11 = .ok (.bipush 31, 2) := by decide +kernel
theorem d_Mo_guess_13 : decode prog_13_method_66_code 13 = .ok (.if_icmp .le 54, 3) := by decide +kernel
theorem d_Mo_guess_16 : decode prog_13_method_66_code 16 = .ok (.lconst 0, 1) := by decide +kernel
theorem d_Mo_guess_17 : decode prog_13_method_66_code 17 = .ok (.lstore 7, 2) := by decide +kernel
theorem d_Mo_guess_19 : decode prog_13_method_66_code 19 = .ok (.iconst 0, 1) := by decide +kernel
theorem d_Mo_guess_20 : decode prog_13_method_66_code 20 = .ok (.istore 9, 2) := by decide +kernel
theorem d_Mo_guess_22 : decode prog_13_method_66_code 22 = .ok (.iload 9, 2) := by decide +kernel
theorem d_Mo_guess_24 : decode prog_13_method_66_code 24 = .ok (.iload_n 3, 1) := by decide +kernel
theorem d_Mo_guess_25 : decode prog_13_method_66_code 25 = .ok (.if_icmp .ge 36, 3) := by decide +kernel
theorem d_Mo_guess_28 : decode prog_13_method_66_code 28 = .ok (.lload 7, 2) := by decide +kernel
theorem d_Mo_guess_30 : decode prog_13_method_66_code 30 = .ok (.aload_n 0, 1) := by decide +kernel
theorem d_Mo_guess_31 : decode prog_13_method_66_code 31 = .ok (.getfield 194, 3) := by decide +kernel
theorem d_Mo_guess_34 : decode prog_13_method_66_code 34 = .ok (.iload 9, 2) := by decide +kernel
theorem d_Mo_guess_36 : decode prog_13_method_66_code 36 = .ok (.iaload, 1) := by decide +kernel
theorem d_Mo_guess_37 : decode prog_13_method_66_code 37 = .ok (.i2l, 1) := by decide +kernel
theorem d_Mo_guess_38 : decode prog_13_method_66_code 38 = .ok (.aload_n 0, 1) := by decide +kernel
theorem d_Mo_guess_39 : decode prog_13_method_66_code 39 = .ok (.getfield 191, 3) := by decide +kernel
theorem d_Mo_guess_42 : decode prog_13_method_66_code 42 = .ok (.iload 6, 2) := by decide +kernel
theorem d_Mo_guess_44 : decode prog_13_method_66_code 44 = .ok (.iconst 1, 1) := by decide +kernel
theorem d_Mo_guess_45 : decode prog_13_method_66_code 45 = .ok (.isub, 1) := by decide +kernel
theorem d_Mo_guess_46 : decode prog_13_method_66_code 46 = .ok (.iload 9, 2) := by decide +kernel
theorem d_Mo_guess_48 : decode prog_13_method_66_code 48 = .ok (.isub, 1) := by decide +kernel
theorem d_Mo_guess_49 : decode prog_13_method_66_code 49 = .ok (.iaload, 1) := by decide +kernel
theorem d_Mo_guess_50 : decode prog_13_method_66_code 50 = .ok (.i2l, 1) := by decide +kernel
theorem d_Mo_guess_51 : decode prog_13_method_66_code 51 = .ok (.lmul, 1) := by decide +kernel
theorem d_Mo_guess_52 : decode prog_13_method_66_code 52 = .ok (.ladd, 1) := by decide +kernel
theorem d_Mo_guess_53 : decode prog_13_method_66_code 53 = .ok (.lstore 7, 2) := by decide +kernel
theorem d_Mo_guess_55 : decode prog_13_method_66_code 55 = .ok (.iinc 9 1, 3) := by decide +kernel
theorem d_Mo_guess_58 : decode prog_13_method_66_code 58 = .ok (.goto (-36), 3) := by decide +kernel
theorem d_Mo_guess_61 : decode prog_13_method_66_code 61 = .ok (.lload 7, 2) := by decide +kernel
theorem d_Mo_guess_63 : decode prog_13_method_66_code 63 = .ok (.iload 4, 2) := by decide +kernel
theorem d_Mo_guess_65 : decode prog_13_method_66_code 65 = .ok (.lshr, 1) := by decide +kernel
theorem d_Mo_guess_66 : decode prog_13_method_66_code 66 = .ok (.lreturn, 1) := by decide +kernel
theorem d_Mo_guess_67 : decode prog_13_method_66_code 67 = .ok (.iload_n 3, 1) := by decide +kernel
theorem d_Mo_guess_68 : decode prog_13_method_66_code 68 = .ok (.tableswitch 112 0 3 #[32, 34, 45, 71], 32) := by decide +kernel
theorem d_Mo_guess_100 : decode prog_13_method_66_code 100 = .ok (.lconst 0, 1) := by decide +kernel
theorem d_Mo_guess_101 : decode prog_13_method_66_code 101 = .ok (.lreturn, 1) := by decide +kernel
theorem d_Mo_guess_102 : decode prog_13_method_66_code 102 = .ok (.aload_n 0, 1) := by decide +kernel
theorem d_Mo_guess_103 : decode prog_13_method_66_code 103 = .ok (.getfield 191, 3) := by decide +kernel
theorem d_Mo_guess_106 : decode prog_13_method_66_code 106 = .ok (.iload 6, 2) := by decide +kernel
theorem d_Mo_guess_108 : decode prog_13_method_66_code 108 = .ok (.iconst 1, 1) := by decide +kernel
theorem d_Mo_guess_109 : decode prog_13_method_66_code 109 = .ok (.isub, 1) := by decide +kernel
theorem d_Mo_guess_110 : decode prog_13_method_66_code 110 = .ok (.iaload, 1) := by decide +kernel
theorem d_Mo_guess_111 : decode prog_13_method_66_code 111 = .ok (.i2l, 1) := by decide +kernel
theorem d_Mo_guess_112 : decode prog_13_method_66_code 112 = .ok (.lreturn, 1) := by decide +kernel
theorem d_Mo_guess_113 : decode prog_13_method_66_code 113 = .ok (.ldc2_w 392, 3) := by decide +kernel
theorem d_Mo_guess_116 : decode prog_13_method_66_code 116 = .ok (.aload_n 0, 1) := by decide +kernel
theorem d_Mo_guess_117 : decode prog_13_method_66_code 117 = .ok (.getfield 191, 3) := by decide +kernel
theorem d_Mo_guess_120 : decode prog_13_method_66_code 120 = .ok (.iload 6, 2) := by decide +kernel
theorem d_Mo_guess_122 : decode prog_13_method_66_code 122 = .ok (.iconst 1, 1) := by decide +kernel
theorem d_Mo_guess_123 : decode prog_13_method_66_code 123 = .ok (.isub, 1) := by decide +kernel
theorem d_Mo_guess_124 : decode prog_13_method_66_code 124 = .ok (.iaload, 1) := by decide +kernel
theorem d_Mo_guess_125 : decode prog_13_method_66_code 125 = .ok (.i2l, 1) := by decide +kernel
theorem d_Mo_guess_126 : decode prog_13_method_66_code 126 = .ok (.lmul, 1) := by decide +kernel
theorem d_Mo_guess_127 : decode prog_13_method_66_code 127 = .ok (.aload_n 0, 1) := by decide +kernel
theorem d_Mo_guess_128 : decode prog_13_method_66_code 128 = .ok (.getfield 191, 3) := by decide +kernel
theorem d_Mo_guess_131 : decode prog_13_method_66_code 131 = .ok (.iload 6, 2) := by decide +kernel
theorem d_Mo_guess_133 : decode prog_13_method_66_code 133 = .ok (.iconst 2, 1) := by decide +kernel
theorem d_Mo_guess_134 : decode prog_13_method_66_code 134 = .ok (.isub, 1) := by decide +kernel
theorem d_Mo_guess_135 : decode prog_13_method_66_code 135 = .ok (.iaload, 1) := by decide +kernel
theorem d_Mo_guess_136 : decode prog_13_method_66_code 136 = .ok (.i2l, 1) := by decide +kernel
theorem d_Mo_guess_137 : decode prog_13_method_66_code 137 = .ok (.lsub, 1) := by decide +kernel
theorem d_Mo_guess_138 : decode prog_13_method_66_code 138 = .ok (.lreturn, 1) := by decide +kernel
theorem d_Mo_guess_139 : decode prog_13_method_66_code 139 = .ok (.ldc2_w 459, 3) := by decide +kernel
theorem d_Mo_guess_142 : decode prog_13_method_66_code 142 = .ok (.aload_n 0, 1) := by decide +kernel
theorem d_Mo_guess_143 : decode prog_13_method_66_code 143 = .ok (.getfield 191, 3) := by decide +kernel
theorem d_Mo_guess_146 : decode prog_13_method_66_code 146 = .ok (.iload 6, 2) := by decide +kernel
theorem d_Mo_guess_148 : decode prog_13_method_66_code 148 = .ok (.iconst 1, 1) := by decide +kernel
theorem d_Mo_guess_149 : decode prog_13_method_66_code 149 = .ok (.isub, 1) := by decide +kernel
theorem d_Mo_guess_150 : decode prog_13_method_66_code 150 = .ok (.iaload, 1) := by decide +kernel
theorem d_Mo_guess_151 : decode prog_13_method_66_code 151 = .ok (.i2l, 1) := by decide +kernel
theorem d_Mo_guess_152 : decode prog_13_method_66_code 152 = .ok (.lmul, 1) := by decide +kernel
theorem d_Mo_guess_153 : decode prog_13_method_66_code 153 = .ok (.ldc2_w 459, 3) := by decide +kernel
theorem d_Mo_guess_156 : decode prog_13_method_66_code 156 = .ok (.aload_n 0, 1) := by decide +kernel
theorem d_Mo_guess_157 : decode prog_13_method_66_code 157 = .ok (.getfield 191, 3) := by decide +kernel
theorem d_Mo_guess_160 : decode prog_13_method_66_code 160 = .ok (.iload 6, 2) := by decide +kernel
theorem d_Mo_guess_162 : decode prog_13_method_66_code 162 = .ok (.iconst 2, 1) := by decide +kernel
theorem d_Mo_guess_163 : decode prog_13_method_66_code 163 = .ok (.isub, 1) := by decide +kernel
theorem d_Mo_guess_164 : decode prog_13_method_66_code 164 = .ok (.iaload, 1) := by decide +kernel
theorem d_Mo_guess_165 : decode prog_13_method_66_code 165 = .ok (.i2l, 1) := by decide +kernel
theorem d_Mo_guess_166 : decode prog_13_method_66_code 166 = .ok (.lmul, 1) := by decide +kernel
theorem d_Mo_guess_167 : decode prog_13_method_66_code 167 = .ok (.lsub, 1) := by decide +kernel
theorem d_Mo_guess_168 : decode prog_13_method_66_code 168 = .ok (.aload_n 0, 1) := by decide +kernel
theorem d_Mo_guess_169 : decode prog_13_method_66_code 169 = .ok (.getfield 191, 3) := by decide +kernel
theorem d_Mo_guess_172 : decode prog_13_method_66_code 172 = .ok (.iload 6, 2) := by decide +kernel
theorem d_Mo_guess_174 : decode prog_13_method_66_code 174 = .ok (.iconst 3, 1) := by decide +kernel
theorem d_Mo_guess_175 : decode prog_13_method_66_code 175 = .ok (.isub, 1) := by decide +kernel
theorem d_Mo_guess_176 : decode prog_13_method_66_code 176 = .ok (.iaload, 1) := by decide +kernel
theorem d_Mo_guess_177 : decode prog_13_method_66_code 177 = .ok (.i2l, 1) := by decide +kernel
theorem d_Mo_guess_178 : decode prog_13_method_66_code 178 = .ok (.ladd, 1) := by decide +kernel
theorem d_Mo_guess_179 : decode prog_13_method_66_code 179 = .ok (.lreturn, 1) := by decide +kernel
theorem d_Mo_guess_180 : decode prog_13_method_66_code 180 = .ok (.ldc2_w 264, 3) := by decide +kernel
theorem d_Mo_guess_183 : decode prog_13_method_66_code 183 = .ok (.aload_n 0, 1) := by decide +kernel
theorem d_Mo_guess_184 : decode prog_13_method_66_code 184 = .ok (.getfield 191, 3) := by decide +kernel
theorem d_Mo_guess_187 : decode prog_13_method_66_code 187 = .ok (.iload 6, 2) := by decide +kernel
theorem d_Mo_guess_189 : decode prog_13_method_66_code 189 = .ok (.iconst 1, 1) := by decide +kernel
theorem d_Mo_guess_190 : decode prog_13_method_66_code 190 = .ok (.isub, 1) := by decide +kernel
theorem d_Mo_guess_191 : decode prog_13_method_66_code 191 = .ok (.iaload, 1) := by decide +kernel
theorem d_Mo_guess_192 : decode prog_13_method_66_code 192 = .ok (.i2l, 1) := by decide +kernel
theorem d_Mo_guess_193 : decode prog_13_method_66_code 193 = .ok (.lmul, 1) := by decide +kernel
theorem d_Mo_guess_194 : decode prog_13_method_66_code 194 = .ok (.ldc2_w 273, 3) := by decide +kernel
theorem d_Mo_guess_197 : decode prog_13_method_66_code 197 = .ok (.aload_n 0, 1) := by decide +kernel
theorem d_Mo_guess_198 : decode prog_13_method_66_code 198 = .ok (.getfield 191, 3) := by decide +kernel
theorem d_Mo_guess_201 : decode prog_13_method_66_code 201 = .ok (.iload 6, 2) := by decide +kernel
theorem d_Mo_guess_203 : decode prog_13_method_66_code 203 = .ok (.iconst 2, 1) := by decide +kernel
theorem d_Mo_guess_204 : decode prog_13_method_66_code 204 = .ok (.isub, 1) := by decide +kernel
theorem d_Mo_guess_205 : decode prog_13_method_66_code 205 = .ok (.iaload, 1) := by decide +kernel
theorem d_Mo_guess_206 : decode prog_13_method_66_code 206 = .ok (.i2l, 1) := by decide +kernel
theorem d_Mo_guess_207 : decode prog_13_method_66_code 207 = .ok (.lmul, 1) := by decide +kernel
theorem d_Mo_guess_208 : decode prog_13_method_66_code 208 = .ok (.lsub, 1) := by decide +kernel
theorem d_Mo_guess_209 : decode prog_13_method_66_code 209 = .ok (.ldc2_w 264, 3) := by decide +kernel
theorem d_Mo_guess_212 : decode prog_13_method_66_code 212 = .ok (.aload_n 0, 1) := by decide +kernel
theorem d_Mo_guess_213 : decode prog_13_method_66_code 213 = .ok (.getfield 191, 3) := by decide +kernel
theorem d_Mo_guess_216 : decode prog_13_method_66_code 216 = .ok (.iload 6, 2) := by decide +kernel
theorem d_Mo_guess_218 : decode prog_13_method_66_code 218 = .ok (.iconst 3, 1) := by decide +kernel
theorem d_Mo_guess_219 : decode prog_13_method_66_code 219 = .ok (.isub, 1) := by decide +kernel
theorem d_Mo_guess_220 : decode prog_13_method_66_code 220 = .ok (.iaload, 1) := by decide +kernel
theorem d_Mo_guess_221 : decode prog_13_method_66_code 221 = .ok (.i2l, 1) := by decide +kernel
theorem d_Mo_guess_222 : decode prog_13_method_66_code 222 = .ok (.lmul, 1) := by decide +kernel
theorem d_Mo_guess_223 : decode prog_13_method_66_code 223 = .ok (.ladd, 1) := by decide +kernel
theorem d_Mo_guess_224 : decode prog_13_method_66_code 224 = .ok (.aload_n 0, 1) := by decide +kernel
theorem d_Mo_guess_225 : decode prog_13_method_66_code 225 = .ok (.getfield 191, 3) := by decide +kernel
theorem d_Mo_guess_228 : decode prog_13_method_66_code 228 = .ok (.iload 6, 2) := by decide +kernel
theorem d_Mo_guess_230 : decode prog_13_method_66_code 230 = .ok (.iconst 4, 1) := by decide +kernel
theorem d_Mo_guess_231 : decode prog_13_method_66_code 231 = .ok (.isub, 1) := by decide +kernel
theorem d_Mo_guess_232 : decode prog_13_method_66_code 232 = .ok (.iaload, 1) := by decide +kernel
theorem d_Mo_guess_233 : decode prog_13_method_66_code 233 = .ok (.i2l, 1) := by decide +kernel
theorem d_Mo_guess_234 : decode prog_13_method_66_code 234 = .ok (.lsub, 1) := by decide +kernel
theorem d_Mo_guess_235 : decode prog_13_method_66_code 235 = .ok (.lreturn, 1) := by decide +kernel
theorem d_Mo_isSum_0 : decode prog_13_method_67_code 0 = .ok (.aload_n 0, 1) := by decide +kernel
theorem d_Mo_isSum_1 : decode prog_13_method_67_code 1 = .ok (.aload_n 0, 1) := by decide +kernel
theorem d_Mo_isSum_2 : decode prog_13_method_67_code 2 = .ok (.getfield 188, 3) := by decide +kernel
theorem d_Mo_isSum_5 : decode prog_13_method_67_code 5 = .ok (.aload_n 0, 1) := by decide +kernel
theorem d_Mo_isSum_6 : decode prog_13_method_67_code 6 = .ok (.getfield 365, 3) := by decide +kernel
theorem d_Mo_isSum_9 : decode prog_13_method_67_code 9 = .ok (.aload_n 0, 1) := by decide +kernel
theorem d_Mo_isSum_10 : decode prog_13_method_67_code 10 = .ok (.getfield 368, 3) := by decide +kernel
theorem d_Mo_isSum_13 : decode prog_13_method_67_code 13 = .ok (.aload_n 0, 1) := by decide +kernel
theorem d_Mo_isSum_14 : decode prog_13_method_67_code 14 = .ok (.getfield 377, 3) := by decide +kernel
theorem d_Mo_isSum_17 : decode prog_13_method_67_code 17 = .ok (.invokevirtual 238, 3) := by decide +kernel
theorem d_Mo_isSum_20 : decode prog_13_method_67_code 20 = .ok (.iconst 1, 1) := by decide +kernel
theorem d_Mo_isSum_21 : decode prog_13_method_67_code 21 = .ok (.istore_n 1, 1) := by decide +kernel
theorem d_Mo_isSum_22 : decode prog_13_method_67_code 22 = .ok (.iconst 0, 1) := by decide +kernel
theorem d_Mo_isSum_23 : decode prog_13_method_67_code 23 = .ok (.istore_n 2, 1) := by decide +kernel
theorem d_Mo_isSum_24 : decode prog_13_method_67_code 24 = .ok (.iload_n 2, 1) := by decide +kernel
theorem d_Mo_isSum_25 : decode prog_13_method_67_code 25 = .ok (.bipush 16, 2) := by decide +kernel
theorem d_Mo_isSum_27 : decode prog_13_method_67_code 27 = .ok (.if_icmp .ge 47, 3) := by decide +kernel
theorem d_Mo_isSum_30 : decode prog_13_method_67_code 30 = .ok (.iload_n 1, 1) := by decide +kernel
theorem d_Mo_isSum_31 : decode prog_13_method_67_code 31 = .ok (.ifCond .eq 35, 3) := by decide +kernel
theorem d_Mo_isSum_34 : decode prog_13_method_67_code 34 = .ok (.aload_n 0, 1) := by decide +kernel
theorem d_Mo_isSum_35 : decode prog_13_method_67_code 35 = .ok (.getfield 185, 3) := by decide +kernel
theorem d_Mo_isSum_38 : decode prog_13_method_67_code 38 = .ok (.iload_n 2, 1) := by decide +kernel
theorem d_Mo_isSum_39 : decode prog_13_method_67_code 39 = .ok (.iaload, 1) := by decide +kernel
theorem d_Mo_isSum_40 : decode prog_13_method_67_code 40 = .ok (.aload_n 0, 1) := by decide +kernel
theorem d_Mo_isSum_41 : decode prog_13_method_67_code 41 = .ok (.getfield 167, 3) := by decide +kernel
theorem d_Mo_isSum_44 : decode prog_13_method_67_code 44 = .ok (.iload_n 2, 1) := by decide +kernel
theorem d_Mo_isSum_45 : decode prog_13_method_67_code 45 = .ok (.iconst 4, 1) := by decide +kernel
theorem d_Mo_isSum_46 : decode prog_13_method_67_code 46 = .ok (.idiv, 1) := by decide +kernel
theorem d_Mo_isSum_47 : decode prog_13_method_67_code 47 = .ok (.iaload, 1) := by decide +kernel
theorem d_Mo_isSum_48 : decode prog_13_method_67_code 48 = .ok (.bipush 8, 2) := by decide +kernel
theorem d_Mo_isSum_50 : decode prog_13_method_67_code 50 = .ok (.iload_n 2, 1) := by decide +kernel
theorem d_Mo_isSum_51 : decode prog_13_method_67_code 51 = .ok (.iconst 4, 1) := by decide +kernel
theorem d_Mo_isSum_52 : decode prog_13_method_67_code 52 = .ok (.irem, 1) := by decide +kernel
theorem d_Mo_isSum_53 : decode prog_13_method_67_code 53 = .ok (.imul, 1) := by decide +kernel
theorem d_Mo_isSum_54 : decode prog_13_method_67_code 54 = .ok (.ishr, 1) := by decide +kernel
theorem d_Mo_isSum_55 : decode prog_13_method_67_code 55 = .ok (.sipush 255, 3) := by decide +kernel
theorem d_Mo_isSum_58 : decode prog_13_method_67_code 58 = .ok (.iand, 1) := by decide +kernel
theorem d_Mo_isSum_59 : decode prog_13_method_67_code 59 = .ok (.if_icmp .ne 7, 3) := by decide +kernel
theorem d_Mo_isSum_62 : decode prog_13_method_67_code 62 = .ok (.iconst 1, 1) := by decide +kernel
theorem d_Mo_isSum_63 : decode prog_13_method_67_code 63 = .ok (.goto 4, 3) := by decide +kernel
theorem d_Mo_isSum_66 : decode prog_13_method_67_code 66 = .ok (.iconst 0, 1) := by decide +kernel
theorem d_Mo_isSum_67 : decode prog_13_method_67_code 67 = .ok (.istore_n 1, 1) := by decide +kernel
theorem d_Mo_isSum_68 : decode prog_13_method_67_code 68 = .ok (.iinc 2 1, 3) := by decide +kernel
theorem d_Mo_isSum_71 : decode prog_13_method_67_code 71 = .ok (.goto (-47), 3) := by decide +kernel
theorem d_Mo_isSum_74 : decode prog_13_method_67_code 74 = .ok (.iload_n 1, 1) := by decide +kernel
theorem d_Mo_isSum_75 : decode prog_13_method_67_code 75 = .ok (.ireturn, 1) := by decide +kernel
theorem d_Mo_decode_0 : decode prog_13_method_68_code 0 = .ok (.aload_n 0, 1) := by decide +kernel
theorem d_Mo_decode_1 : decode prog_13_method_68_code 1 = .ok (.iconst 0, 1) := by decide +kernel
theorem d_Mo_decode_2 : decode prog_13_method_68_code 2 = .ok (.putfield 197, 3) := by decide +kernel
theorem d_Mo_decode_5 : decode prog_13_method_68_code 5 = .ok (.aload_n 0, 1) := by decide +kernel
theorem d_Mo_decode_6 : decode prog_13_method_68_code 6 = .ok (.iconst 0, 1) := by decide +kernel
theorem d_Mo_decode_7 : decode prog_13_method_68_code 7 = .ok (.putfield 361, 3) := by decide +kernel
theorem d_Mo_decode_10 : decode prog_13_method_68_code 10 = .ok (.aload_n 0, 1) := by decide +kernel
theorem d_Mo_decode_11 : decode prog_13_method_68_code 11 = .ok (.iconst 0, 1) := by decide +kernel
theorem d_Mo_decode_12 : decode prog_13_method_68_code 12 = .ok (.putfield 386, 3) := by decide +kernel
theorem d_Mo_decode_15 : decode prog_13_method_68_code 15 = .ok (.aload_n 0, 1) := by decide +kernel
theorem d_Mo_decode_16 : decode prog_13_method_68_code 16 = .ok (.iconst (-1), 1) := by decide +kernel
theorem d_Mo_decode_17 : decode prog_13_method_68_code 17 = .ok (.putfield 182, 3) := by decide +kernel
theorem d_Mo_decode_20 : decode prog_13_method_68_code 20 = .ok (.aload_n 0, 1) := by decide +kernel
theorem d_Mo_decode_21 : decode prog_13_method_68_code 21 = .ok (.iconst 0, 1) := by decide +kernel
theorem d_Mo_decode_22 : decode prog_13_method_68_code 22 = .ok (.putfield 377, 3) := by decide +kernel
theorem d_Mo_decode_25 : decode prog_13_method_68_code 25 = .ok (.aload_n 0, 1) := by decide +kernel
theorem d_Mo_decode_26 : decode prog_13_method_68_code 26 = .ok (.iconst 0, 1) := by decide +kernel
theorem d_Mo_decode_27 : decode prog_13_method_68_code 27 = .ok (.putfield 380, 3) := by decide +kernel
theorem d_Mo_decode_30 : decode prog_13_method_68_code 30 = .ok (.aload_n 0, 1) := by decide +kernel
theorem d_Mo_decode_31 : decode prog_13_method_68_code 31 = .ok (.ldc2_w 461, 3) := by decide +kernel
theorem d_Mo_decode_34 : decode prog_13_method_68_code 34 = .ok (.putfield 244, 3) := by decide +kernel
theorem d_Mo_decode_37 : decode prog_13_method_68_code 37 = .ok (.aload_n 0, 1) := by decide +kernel
theorem d_Mo_decode_38 : decode prog_13_method_68_code 38 = .ok (.iconst 0, 1) := by decide +kernel
theorem d_Mo_decode_39 : decode prog_13_method_68_code 39 = .ok (.putfield 403, 3) := by decide +kernel
theorem d_Mo_decode_42 : decode prog_13_method_68_code 42 = .ok (.aload_n 0, 1) := by decide +kernel
theorem d_Mo_decode_43 : decode prog_13_method_68_code 43 = .ok (.getfield 354, 3) := by decide +kernel
theorem d_Mo_decode_46 : decode prog_13_method_68_code 46 = .ok (.iconst 4, 1) := by decide +kernel
theorem d_Mo_decode_47 : decode prog_13_method_68_code 47 = .ok (.if_icmp .lt 47, 3) := by decide +kernel
theorem d_Mo_decode_50 : decode prog_13_method_68_code 50 = .ok (.aload_n 0, 1) := by decide +kernel
theorem d_Mo_decode_51 : decode prog_13_method_68_code 51 = .ok (.getfield 170, 3) := by decide +kernel
theorem d_Mo_decode_54 : decode prog_13_method_68_code 54 = .ok (.iconst 0, 1) := by decide +kernel
theorem d_Mo_decode_55 : decode prog_13_method_68_code 55 = .ok (.iaload, 1) := by decide +kernel
theorem d_Mo_decode_56 : decode prog_13_method_68_code 56 = .ok (.bipush 102, 2) := by decide +kernel
theorem d_Mo_decode_58 : decode prog_13_method_68_code 58 = .ok (.if_icmp .ne 36, 3) := by decide +kernel
theorem d_Mo_decode_61 : decode prog_13_method_68_code 61 = .ok (.aload_n 0, 1) := by decide +kernel
theorem d_Mo_decode_62 : decode prog_13_method_68_code 62 = .ok (.getfield 170, 3) := by decide +kernel
theorem d_Mo_decode_65 : decode prog_13_method_68_code 65 = .ok (.iconst 1, 1) := by decide +kernel
theorem d_Mo_decode_66 : decode prog_13_method_68_code 66 = .ok (.iaload, 1) := by decide +kernel
theorem d_Mo_decode_67 : decode prog_13_method_68_code 67 = .ok (.bipush 76, 2) := by decide +kernel
theorem d_Mo_decode_69 : decode prog_13_method_68_code 69 = .ok (.if_icmp .ne 25, 3) := by decide +kernel
theorem d_Mo_decode_72 : decode prog_13_method_68_code 72 = .ok (.aload_n 0, 1) := by decide +kernel
theorem d_Mo_decode_73 : decode prog_13_method_68_code 73 = .ok (.getfield 170, 3) := by decide +kernel
theorem d_Mo_decode_76 : decode prog_13_method_68_code 76 = .ok (.iconst 2, 1) := by decide +kernel
theorem d_Mo_decode_77 : decode prog_13_method_68_code 77 = .ok (.iaload, 1) := by decide +kernel
theorem d_Mo_decode_78 : decode prog_13_method_68_code 78 = .ok (.bipush 97, 2) := by decide +kernel
theorem d_Mo_decode_80 : decode prog_13_method_68_code 80 = .ok (.if_icmp .ne 14, 3) := by decide +kernel
theorem d_Mo_decode_83 : decode prog_13_method_68_code 83 = .ok (.aload_n 0, 1) := by decide +kernel
theorem d_Mo_decode_84 : decode prog_13_method_68_code 84 = .ok (.getfield 170, 3) := by decide +kernel
theorem d_Mo_decode_87 : decode prog_13_method_68_code 87 = .ok (.iconst 3, 1) := by decide +kernel
theorem d_Mo_decode_88 : decode prog_13_method_68_code 88 = .ok (.iaload, 1) := by decide +kernel
theorem d_Mo_decode_89 : decode prog_13_method_68_code 89 = .ok (.bipush 67, 2) := by decide +kernel
theorem d_Mo_decode_91 : decode prog_13_method_68_code 91 = .ok (.if_icmp .eq 11, 3) := by decide +kernel
theorem d_Mo_decode_94 : decode prog_13_method_68_code 94 = .ok (.aload_n 0, 1) := by decide +kernel
theorem d_Mo_decode_95 : decode prog_13_method_68_code 95 = .ok (.iconst 1, 1) := by decide +kernel
theorem d_Mo_decode_96 : decode prog_13_method_68_code 96 = .ok (.putfield 386, 3) := by decide +kernel
theorem d_Mo_decode_99 : decode prog_13_method_68_code 99 = .ok (.goto 7, 3) := by decide +kernel
theorem d_Mo_decode_102 : decode prog_13_method_68_code 102 = .ok (.aload_n 0, 1) := by decide +kernel
theorem d_Mo_decode_103 : decode prog_13_method_68_code 103 = .ok (.invokevirtual 463, 3) := by decide +kernel
theorem d_Mo_decode_106 : decode prog_13_method_68_code 106 = .ok (.aload_n 0, 1) := by decide +kernel
theorem d_Mo_decode_107 : decode prog_13_method_68_code 107 = .ok (.getfield 386, 3) := by decide +kernel
theorem d_Mo_decode_110 : decode prog_13_method_68_code 110 = .ok (.ifCond .ne 27, 3) := by decide +kernel
theorem d_Mo_decode_113 : decode prog_13_method_68_code 113 = .ok (.aload_n 0, 1) := by decide +kernel
theorem d_Mo_decode_114 : decode prog_13_method_68_code 114 = .ok (.getfield 244, 3) := by decide +kernel
theorem d_Mo_decode_117 : decode prog_13_method_68_code 117 = .ok (.ldc2_w 222, 3) := by decide +kernel
theorem d_Mo_decode_120 : decode prog_13_method_68_code 120 = .ok (.aload_n 0, 1) := by decide +kernel
theorem d_Mo_decode_121 : decode prog_13_method_68_code 121 = .ok (.getfield 354, 3) := by decide +kernel
theorem d_Mo_decode_124 : decode prog_13_method_68_code 124 = .ok (.i2l, 1) := by decide +kernel
theorem d_Mo_decode_125 : decode prog_13_method_68_code 125 = .ok (.lmul, 1) := by decide +kernel
theorem d_Mo_decode_126 : decode prog_13_method_68_code 126 = .ok (.lcmp, 1) := by decide +kernel
theorem d_Mo_decode_127 : decode prog_13_method_68_code 127 = .ok (.ifCond .ge 10, 3) := by decide +kernel
theorem d_Mo_decode_130 : decode prog_13_method_68_code 130 = .ok (.aload_n 0, 1) := by decide +kernel
theorem d_Mo_decode_131 : decode prog_13_method_68_code 131 = .ok (.invokevirtual 466, 3) := by decide +kernel
theorem d_Mo_decode_134 : decode prog_13_method_68_code 134 = .ok (.goto (-28), 3) := by decide +kernel
theorem d_Mo_decode_137 : decode prog_13_method_68_code 137 = .ok (.aload_n 0, 1) := by decide +kernel
theorem d_Mo_decode_138 : decode prog_13_method_68_code 138 = .ok (.getfield 386, 3) := by decide +kernel
theorem d_Mo_decode_141 : decode prog_13_method_68_code 141 = .ok (.ifCond .ne 40, 3) := by decide +kernel
theorem d_Mo_decode_144 : decode prog_13_method_68_code 144 = .ok (.aload_n 0, 1) := by decide +kernel
theorem d_Mo_decode_145 : decode prog_13_method_68_code 145 = .ok (.aload_n 0, 1) := by decide +kernel
theorem d_Mo_decode_146 : decode prog_13_method_68_code 146 = .ok (.getfield 354, 3) := by decide +kernel
theorem d_Mo_decode_149 : decode prog_13_method_68_code 149 = .ok (.putfield 403, 3) := by decide +kernel
theorem d_Mo_decode_152 : decode prog_13_method_68_code 152 = .ok (.aload_n 0, 1) := by decide +kernel
theorem d_Mo_decode_153 : decode prog_13_method_68_code 153 = .ok (.aload_n 0, 1) := by decide +kernel
theorem d_Mo_decode_154 : decode prog_13_method_68_code 154 = .ok (.getfield 406, 3) := by decide +kernel
theorem d_Mo_decode_157 : decode prog_13_method_68_code 157 = .ok (.ifCond .eq 14, 3) := by decide +kernel
theorem d_Mo_decode_160 : decode prog_13_method_68_code 160 = .ok (.aload_n 0, 1) := by decide +kernel
theorem d_Mo_decode_161 : decode prog_13_method_68_code 161 = .ok (.getfield 377, 3) := by decide +kernel
theorem d_Mo_decode_164 : decode prog_13_method_68_code 164 = .ok (.aload_n 0, 1) := by decide +kernel
theorem d_Mo_decode_165 : decode prog_13_method_68_code 165 = .ok (.getfield 406, 3) := by decide +kernel
theorem d_Mo_decode_168 : decode prog_13_method_68_code 168 = .ok (.if_icmp .ne 7, 3) := by decide +kernel
theorem d_Mo_decode_171 : decode prog_13_method_68_code 171 = .ok (.iconst 1, 1) := by decide +kernel
theorem d_Mo_decode_172 : decode prog_13_method_68_code 172 = .ok (.goto 4, 3) := by decide +kernel
theorem d_Mo_decode_175 : decode prog_13_method_68_code 175 = .ok (.iconst 0, 1) := by decide +kernel
theorem d_Mo_decode_176 : decode prog_13_method_68_code 176 = .ok (.bipush 14, 2) := by decide +kernel
theorem d_Mo_decode_178 : decode prog_13_method_68_code 178 = .ok (.invokevirtual 409, 3) := by decide +kernel
theorem d_Mo_decode_181 : decode prog_13_method_68_code 181 = .ok (.aload_n 0, 1) := by decide +kernel
theorem d_Mo_decode_182 : decode prog_13_method_68_code 182 = .ok (.getfield 386, 3) := by decide +kernel
theorem d_Mo_decode_185 : decode prog_13_method_68_code 185 = .ok (.ifCond .ne 28, 3) := by decide +kernel
theorem d_Mo_decode_188 : decode prog_13_method_68_code 188 = .ok (.aload_n 0, 1) := by decide +kernel
theorem d_Mo_decode_189 : decode prog_13_method_68_code 189 = .ok (.aload_n 0, 1) := by decide +kernel
theorem d_Mo_decode_190 : decode prog_13_method_68_code 190 = .ok (.getfield 383, 3) := by decide +kernel
theorem d_Mo_decode_193 : decode prog_13_method_68_code 193 = .ok (.ifCond .eq 10, 3) := by decide +kernel
theorem d_Mo_decode_196 : decode prog_13_method_68_code 196 = .ok (.aload_n 0, 1) := by decide +kernel
theorem d_Mo_decode_197 : decode prog_13_method_68_code 197 = .ok (.invokevirtual 469, 3) := by decide +kernel
theorem d_Mo_decode_200 : decode prog_13_method_68_code 200 = .ok (.ifCond .eq 7, 3) := by decide +kernel
theorem d_Mo_decode_203 : decode prog_13_method_68_code 203 = .ok (.iconst 1, 1) := by decide +kernel
theorem d_Mo_decode_204 : decode prog_13_method_68_code 204 = .ok (.goto 4, 3) := by decide +kernel
theorem d_Mo_decode_207 : decode prog_13_method_68_code 207 = .ok (.iconst 0, 1) := by decide +kernel
theorem d_Mo_decode_208 : decode prog_13_method_68_code 208 = .ok (.bipush 15, 2) := by decide +kernel
theorem d_Mo_decode_210 : decode prog_13_method_68_code 210 = .ok (.invokevirtual 409, 3) := by decide +kernel
theorem d_Mo_decode_213 : decode prog_13_method_68_code 213 = .ok (.aload_n 0, 1) := by decide +kernel
theorem d_Mo_decode_214 : decode prog_13_method_68_code 214 = .ok (.getfield 386, 3) := by decide +kernel
theorem d_Mo_decode_217 : decode prog_13_method_68_code 217 = .ok (.ifCond .le 13, 3) := by decide +kernel
theorem d_Mo_decode_220 : decode prog_13_method_68_code 220 = .ok (.aload_n 0, 1) := by decide +kernel
theorem d_Mo_decode_221 : decode prog_13_method_68_code 221 = .ok (.aload_n 0, 1) := by decide +kernel
theorem d_Mo_decode_222 : decode prog_13_method_68_code 222 = .ok (.getfield 403, 3) := by decide +kernel
theorem d_Mo_decode_225 : decode prog_13_method_68_code 225 = .ok (.putfield 182, 3) := by decide +kernel
theorem d_Mo_decode_228 : decode prog_13_method_68_code 228 = .ok (.iconst (-1), 1) := by decide +kernel
theorem d_Mo_decode_229 : decode prog_13_method_68_code 229 = .ok (.ireturn, 1) := by decide +kernel
theorem d_Mo_decode_230 : decode prog_13_method_68_code 230 = .ok (.aload_n 0, 1) := by decide +kernel
theorem d_Mo_decode_231 : decode prog_13_method_68_code 231 = .ok (.iconst 1, 1) := by decide +kernel
theorem d_Mo_decode_232 : decode prog_13_method_68_code 232 = .ok (.putfield 361, 3) := by decide +kernel
theorem d_Mo_decode_235 : decode prog_13_method_68_code 235 = .ok (.aload_n 0, 1) := by decide +kernel
theorem d_Mo_decode_236 : decode prog_13_method_68_code 236 = .ok (.getfield 377, 3) := by decide +kernel
theorem d_Mo_decode_239 : decode prog_13_method_68_code 239 = .ok (.ireturn, 1) := by decide +kernel
theorem d_Mo_fault_0 : decode prog_13_method_69_code 0 = .ok (.aload_n 0, 1) := by decide +kernel
theorem d_Mo_fault_1 : decode prog_13_method_69_code 1 = .ok (.iconst 0, 1) := by decide +kernel
theorem d_Mo_fault_2 : decode prog_13_method_69_code 2 = .ok (.putfield 197, 3) := by decide +kernel
theorem d_Mo_fault_5 : decode prog_13_method_69_code 5 = .ok (.aload_n 0, 1) := by decide +kernel
theorem d_Mo_fault_6 : decode prog_13_method_69_code 6 = .ok (.getfield 386, 3) := by decide +kernel
theorem d_Mo_fault_9 : decode prog_13_method_69_code 9 = .ok (.ireturn, 1) := by decide +kernel
theorem d_Mo_place_0 : decode prog_13_method_70_code 0 = .ok (.aload_n 0, 1) := by decide +kernel
theorem d_Mo_place_1 : decode prog_13_method_70_code 1 = .ok (.iconst 0, 1) := by decide +kernel
theorem d_Mo_place_2 : decode prog_13_method_70_code 2 = .ok (.putfield 197, 3) := by decide +kernel
theorem d_Mo_place_5 : decode prog_13_method_70_code 5 = .ok (.aload_n 0, 1) := by decide +kernel
theorem d_Mo_place_6 : decode prog_13_method_70_code 6 = .ok (.getfield 182, 3) := by decide +kernel
theorem d_Mo_place_9 : decode prog_13_method_70_code 9 = .ok (.ireturn, 1) := by decide +kernel
theorem d_Mo_heard_0 : decode prog_13_method_71_code 0 = .ok (.aload_n 0, 1) := by decide +kernel
theorem d_Mo_heard_1 : decode prog_13_method_71_code 1 = .ok (.iload_n 1, 1) := by decide +kernel
theorem d_Mo_heard_2 : decode prog_13_method_71_code 2 = .ok (.ifCond .lt 8, 3) := by decide +kernel
theorem d_Mo_heard_5 : decode prog_13_method_71_code 5 = .ok (.iload_n 1, 1) := by decide +kernel
theorem d_Mo_heard_6 : decode prog_13_method_71_code 6 = .ok (.iconst 1, 1) := by decide +kernel
theorem d_Mo_heard_7 : decode prog_13_method_71_code 7 = .ok (.if_icmp .le 7, 3) := by decide +kernel
theorem d_Mo_heard_10 : decode prog_13_method_71_code 10 = .ok (.iconst 1, 1) := by decide +kernel
theorem d_Mo_heard_11 : decode prog_13_method_71_code 11 = .ok (.goto 35, 3) := by decide +kernel
theorem d_Mo_heard_14 : decode prog_13_method_71_code 14 = .ok (.aload_n 0, 1) := by decide +kernel
theorem d_Mo_heard_15 : decode prog_13_method_71_code 15 = .ok (.getfield 361, 3) := by decide +kernel
theorem d_Mo_heard_18 : decode prog_13_method_71_code 18 = .ok (.ifCond .eq 23, 3) := by decide +kernel
theorem d_Mo_heard_21 : decode prog_13_method_71_code 21 = .ok (.iload_n 1, 1) := by decide +kernel
theorem d_Mo_heard_22 : decode prog_13_method_71_code 22 = .ok (.aload_n 0, 1) := by decide +kernel
theorem d_Mo_heard_23 : decode prog_13_method_71_code 23 = .ok (.getfield 365, 3) := by decide +kernel
theorem d_Mo_heard_26 : decode prog_13_method_71_code 26 = .ok (.if_icmp .ge 15, 3) := by decide +kernel
theorem d_Mo_heard_29 : decode prog_13_method_71_code 29 = .ok (.iload_n 2, 1) := by decide +kernel
theorem d_Mo_heard_30 : decode prog_13_method_71_code 30 = .ok (.ifCond .lt 11, 3) := by decide +kernel
theorem d_Mo_heard_33 : decode prog_13_method_71_code 33 = .ok (.iload_n 2, 1) := by decide +kernel
theorem d_Mo_heard_34 : decode prog_13_method_71_code 34 = .ok (.aload_n 0, 1) := by decide +kernel
theorem d_Mo_heard_35 : decode prog_13_method_71_code 35 = .ok (.getfield 377, 3) := by decide +kernel
theorem d_Mo_heard_38 : decode prog_13_method_71_code 38 = .ok (.if_icmp .lt 7, 3) := by decide +kernel
theorem d_Mo_heard_41 : decode prog_13_method_71_code 41 = .ok (.iconst 2, 1) := by decide +kernel
theorem d_Mo_heard_42 : decode prog_13_method_71_code 42 = .ok (.goto 4, 3) := by decide +kernel
theorem d_Mo_heard_45 : decode prog_13_method_71_code 45 = .ok (.iconst 0, 1) := by decide +kernel
theorem d_Mo_heard_46 : decode prog_13_method_71_code 46 = .ok (.putfield 197, 3) := by decide +kernel
theorem d_Mo_heard_49 : decode prog_13_method_71_code 49 = .ok (.aload_n 0, 1) := by decide +kernel
theorem d_Mo_heard_50 : decode prog_13_method_71_code 50 = .ok (.getfield 197, 3) := by decide +kernel
theorem d_Mo_heard_53 : decode prog_13_method_71_code 53 = .ok (.ifCond .le 7, 3) := by decide +kernel
theorem d_Mo_heard_56 : decode prog_13_method_71_code 56 = .ok (.iconst 0, 1) := by decide +kernel
theorem d_Mo_heard_57 : decode prog_13_method_71_code 57 = .ok (.goto 15, 3) := by decide +kernel
theorem d_Mo_heard_60 : decode prog_13_method_71_code 60 = .ok (.aload_n 0, 1) := by decide +kernel
theorem d_Mo_heard_61 : decode prog_13_method_71_code 61 = .ok (.getfield 188, 3) := by decide +kernel
theorem d_Mo_heard_64 : decode prog_13_method_71_code 64 = .ok (.sipush 1200, 3) := by decide +kernel
theorem d_Mo_heard_67 : decode prog_13_method_71_code 67 = .ok (.iload_n 1, 1) := by decide +kernel
theorem d_Mo_heard_68 : decode prog_13_method_71_code 68 = .ok (.imul, 1) := by decide +kernel
theorem d_Mo_heard_69 : decode prog_13_method_71_code 69 = .ok (.iload_n 2, 1) := by decide +kernel
theorem d_Mo_heard_70 : decode prog_13_method_71_code 70 = .ok (.iadd, 1) := by decide +kernel
theorem d_Mo_heard_71 : decode prog_13_method_71_code 71 = .ok (.iaload, 1) := by decide +kernel
theorem d_Mo_heard_72 : decode prog_13_method_71_code 72 = .ok (.ireturn, 1) := by decide +kernel
