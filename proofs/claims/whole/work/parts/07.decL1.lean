theorem d_L_law_0 : decode b_L_law 0 = .ok (.new 7, 3) := by decide +kernel
theorem d_L_law_3 : decode b_L_law 3 = .ok (.dup, 1) := by decide +kernel
theorem d_L_law_4 : decode b_L_law 4 = .ok (.invokespecial 9, 3) := by decide +kernel
theorem d_L_law_7 : decode b_L_law 7 = .ok (.astore_n 1, 1) := by decide +kernel
theorem d_L_law_8 : decode b_L_law 8 = .ok (.new 10, 3) := by decide +kernel
theorem d_L_law_11 : decode b_L_law 11 = .ok (.dup, 1) := by decide +kernel
theorem d_L_law_12 : decode b_L_law 12 = .ok (.invokespecial 12, 3) := by decide +kernel
theorem d_L_law_15 : decode b_L_law 15 = .ok (.astore_n 2, 1) := by decide +kernel
theorem d_L_law_16 : decode b_L_law 16 = .ok (.iconst 0, 1) := by decide +kernel
theorem d_L_law_17 : decode b_L_law 17 = .ok (.istore_n 3, 1) := by decide +kernel
theorem d_L_law_18 : decode b_L_law 18 = .ok (.iload_n 3, 1) := by decide +kernel
theorem d_L_law_19 : decode b_L_law 19 = .ok (.aload_n 0, 1) := by decide +kernel
theorem d_L_law_20 : decode b_L_law 20 = .ok (.arraylength, 1) := by decide +kernel
theorem d_L_law_21 : decode b_L_law 21 = .ok (.bipush 7, 2) := by decide +kernel
theorem d_L_law_23 : decode b_L_law 23 = .ok (.isub, 1) := by decide +kernel
theorem d_L_law_24 : decode b_L_law 24 = .ok (.if_icmp .gt 942, 3) := by decide +kernel
theorem d_L_law_27 : decode b_L_law 27 = .ok (.aload_n 0, 1) := by decide +kernel
theorem d_L_law_28 : decode b_L_law 28 = .ok (.iload_n 3, 1) := by decide +kernel
theorem d_L_law_29 : decode b_L_law 29 = .ok (.iaload, 1) := by decide +kernel
theorem d_L_law_30 : decode b_L_law 30 = .ok (.bipush 15, 2) := by decide +kernel
theorem d_L_law_32 : decode b_L_law 32 = .ok (.iand, 1) := by decide +kernel
theorem d_L_law_33 : decode b_L_law 33 = .ok (.tableswitch 927 0 11 #[63, 198, 301, 404, 427, 562, 596, 640, 664, 757, 781, 916], 63) := by decide +kernel
theorem d_L_law_96 : decode b_L_law 96 = .ok (.aload_n 1, 1) := by decide +kernel
theorem d_L_law_97 : decode b_L_law 97 = .ok (.aload_n 0, 1) := by decide +kernel
theorem d_L_law_98 : decode b_L_law 98 = .ok (.iload_n 3, 1) := by decide +kernel
theorem d_L_law_99 : decode b_L_law 99 = .ok (.iconst 1, 1) := by decide +kernel
theorem d_L_law_100 : decode b_L_law 100 = .ok (.iadd, 1) := by decide +kernel
theorem d_L_law_101 : decode b_L_law 101 = .ok (.iaload, 1) := by decide +kernel
theorem d_L_law_102 : decode b_L_law 102 = .ok (.i2l, 1) := by decide +kernel
theorem d_L_law_103 : decode b_L_law 103 = .ok (.bipush 32, 2) := by decide +kernel
theorem d_L_law_105 : decode b_L_law 105 = .ok (.lshl, 1) := by decide +kernel
theorem d_L_law_106 : decode b_L_law 106 = .ok (.aload_n 0, 1) := by decide +kernel
theorem d_L_law_107 : decode b_L_law 107 = .ok (.iload_n 3, 1) := by decide +kernel
theorem d_L_law_108 : decode b_L_law 108 = .ok (.iconst 2, 1) := by decide +kernel
theorem d_L_law_109 : decode b_L_law 109 = .ok (.iadd, 1) := by decide +kernel
theorem d_L_law_110 : decode b_L_law 110 = .ok (.iaload, 1) := by decide +kernel
theorem d_L_law_111 : decode b_L_law 111 = .ok (.i2l, 1) := by decide +kernel
theorem d_L_law_112 : decode b_L_law 112 = .ok (.ldc2_w 13, 3) := by decide +kernel
theorem d_L_law_115 : decode b_L_law 115 = .ok (.land, 1) := by decide +kernel
theorem d_L_law_116 : decode b_L_law 116 = .ok (.lor, 1) := by decide +kernel
theorem d_L_law_117 : decode b_L_law 117 = .ok (.aload_n 0, 1) := by decide +kernel
theorem d_L_law_118 : decode b_L_law 118 = .ok (.iload_n 3, 1) := by decide +kernel
theorem d_L_law_119 : decode b_L_law 119 = .ok (.iconst 3, 1) := by decide +kernel
theorem d_L_law_120 : decode b_L_law 120 = .ok (.iadd, 1) := by decide +kernel
theorem d_L_law_121 : decode b_L_law 121 = .ok (.iaload, 1) := by decide +kernel
theorem d_L_law_122 : decode b_L_law 122 = .ok (.i2l, 1) := by decide +kernel
theorem d_L_law_123 : decode b_L_law 123 = .ok (.bipush 32, 2) := by decide +kernel
theorem d_L_law_125 : decode b_L_law 125 = .ok (.lshl, 1) := by decide +kernel
theorem d_L_law_126 : decode b_L_law 126 = .ok (.aload_n 0, 1) := by decide +kernel
theorem d_L_law_127 : decode b_L_law 127 = .ok (.iload_n 3, 1) := by decide +kernel
theorem d_L_law_128 : decode b_L_law 128 = .ok (.iconst 4, 1) := by decide +kernel
theorem d_L_law_129 : decode b_L_law 129 = .ok (.iadd, 1) := by decide +kernel
theorem d_L_law_130 : decode b_L_law 130 = .ok (.iaload, 1) := by decide +kernel
theorem d_L_law_131 : decode b_L_law 131 = .ok (.i2l, 1) := by decide +kernel
theorem d_L_law_132 : decode b_L_law 132 = .ok (.ldc2_w 13, 3) := by decide +kernel
theorem d_L_law_135 : decode b_L_law 135 = .ok (.land, 1) := by decide +kernel
theorem d_L_law_136 : decode b_L_law 136 = .ok (.lor, 1) := by decide +kernel
theorem d_L_law_137 : decode b_L_law 137 = .ok (.aload_n 0, 1) := by decide +kernel
theorem d_L_law_138 : decode b_L_law 138 = .ok (.iload_n 3, 1) := by decide +kernel
theorem d_L_law_139 : decode b_L_law 139 = .ok (.iconst 5, 1) := by decide +kernel
theorem d_L_law_140 : decode b_L_law 140 = .ok (.iadd, 1) := by decide +kernel
theorem d_L_law_141 : decode b_L_law 141 = .ok (.iaload, 1) := by decide +kernel
theorem d_L_law_142 : decode b_L_law 142 = .ok (.i2l, 1) := by decide +kernel
theorem d_L_law_143 : decode b_L_law 143 = .ok (.bipush 32, 2) := by decide +kernel
theorem d_L_law_145 : decode b_L_law 145 = .ok (.lshl, 1) := by decide +kernel
theorem d_L_law_146 : decode b_L_law 146 = .ok (.aload_n 0, 1) := by decide +kernel
theorem d_L_law_147 : decode b_L_law 147 = .ok (.iload_n 3, 1) := by decide +kernel
theorem d_L_law_148 : decode b_L_law 148 = .ok (.bipush 6, 2) := by decide +kernel
theorem d_L_law_150 : decode b_L_law 150 = .ok (.iadd, 1) := by decide +kernel
theorem d_L_law_151 : decode b_L_law 151 = .ok (.iaload, 1) := by decide +kernel
theorem d_L_law_152 : decode b_L_law 152 = .ok (.i2l, 1) := by decide +kernel
theorem d_L_law_153 : decode b_L_law 153 = .ok (.ldc2_w 13, 3) := by decide +kernel
theorem d_L_law_156 : decode b_L_law 156 = .ok (.land, 1) := by decide +kernel
theorem d_L_law_157 : decode b_L_law 157 = .ok (.lor, 1) := by decide +kernel
theorem d_L_law_158 : decode b_L_law 158 = .ok (.invokevirtual 15, 3) := by decide +kernel
theorem d_L_law_161 : decode b_L_law 161 = .ok (.aload_n 2, 1) := by decide +kernel
theorem d_L_law_162 : decode b_L_law 162 = .ok (.aload_n 0, 1) := by decide +kernel
theorem d_L_law_163 : decode b_L_law 163 = .ok (.iload_n 3, 1) := by decide +kernel
theorem d_L_law_164 : decode b_L_law 164 = .ok (.iconst 1, 1) := by decide +kernel
theorem d_L_law_165 : decode b_L_law 165 = .ok (.iadd, 1) := by decide +kernel
theorem d_L_law_166 : decode b_L_law 166 = .ok (.iaload, 1) := by decide +kernel
theorem d_L_law_167 : decode b_L_law 167 = .ok (.i2l, 1) := by decide +kernel
theorem d_L_law_168 : decode b_L_law 168 = .ok (.bipush 32, 2) := by decide +kernel
theorem d_L_law_170 : decode b_L_law 170 = .ok (.lshl, 1) := by decide +kernel
theorem d_L_law_171 : decode b_L_law 171 = .ok (.aload_n 0, 1) := by decide +kernel
theorem d_L_law_172 : decode b_L_law 172 = .ok (.iload_n 3, 1) := by decide +kernel
theorem d_L_law_173 : decode b_L_law 173 = .ok (.iconst 2, 1) := by decide +kernel
theorem d_L_law_174 : decode b_L_law 174 = .ok (.iadd, 1) := by decide +kernel
theorem d_L_law_175 : decode b_L_law 175 = .ok (.iaload, 1) := by decide +kernel
theorem d_L_law_176 : decode b_L_law 176 = .ok (.i2l, 1) := by decide +kernel
theorem d_L_law_177 : decode b_L_law 177 = .ok (.ldc2_w 13, 3) := by decide +kernel
theorem d_L_law_180 : decode b_L_law 180 = .ok (.land, 1) := by decide +kernel
theorem d_L_law_181 : decode b_L_law 181 = .ok (.lor, 1) := by decide +kernel
theorem d_L_law_182 : decode b_L_law 182 = .ok (.aload_n 0, 1) := by decide +kernel
theorem d_L_law_183 : decode b_L_law 183 = .ok (.iload_n 3, 1) := by decide +kernel
theorem d_L_law_184 : decode b_L_law 184 = .ok (.iconst 3, 1) := by decide +kernel
theorem d_L_law_185 : decode b_L_law 185 = .ok (.iadd, 1) := by decide +kernel
theorem d_L_law_186 : decode b_L_law 186 = .ok (.iaload, 1) := by decide +kernel
theorem d_L_law_187 : decode b_L_law 187 = .ok (.i2l, 1) := by decide +kernel
theorem d_L_law_188 : decode b_L_law 188 = .ok (.bipush 32, 2) := by decide +kernel
theorem d_L_law_190 : decode b_L_law 190 = .ok (.lshl, 1) := by decide +kernel
theorem d_L_law_191 : decode b_L_law 191 = .ok (.aload_n 0, 1) := by decide +kernel
theorem d_L_law_192 : decode b_L_law 192 = .ok (.iload_n 3, 1) := by decide +kernel
theorem d_L_law_193 : decode b_L_law 193 = .ok (.iconst 4, 1) := by decide +kernel
theorem d_L_law_194 : decode b_L_law 194 = .ok (.iadd, 1) := by decide +kernel
theorem d_L_law_195 : decode b_L_law 195 = .ok (.iaload, 1) := by decide +kernel
theorem d_L_law_196 : decode b_L_law 196 = .ok (.i2l, 1) := by decide +kernel
theorem d_L_law_197 : decode b_L_law 197 = .ok (.ldc2_w 13, 3) := by decide +kernel
theorem d_L_law_200 : decode b_L_law 200 = .ok (.land, 1) := by decide +kernel
theorem d_L_law_201 : decode b_L_law 201 = .ok (.lor, 1) := by decide +kernel
theorem d_L_law_202 : decode b_L_law 202 = .ok (.aload_n 0, 1) := by decide +kernel
theorem d_L_law_203 : decode b_L_law 203 = .ok (.iload_n 3, 1) := by decide +kernel
theorem d_L_law_204 : decode b_L_law 204 = .ok (.iconst 5, 1) := by decide +kernel
theorem d_L_law_205 : decode b_L_law 205 = .ok (.iadd, 1) := by decide +kernel
theorem d_L_law_206 : decode b_L_law 206 = .ok (.iaload, 1) := by decide +kernel
theorem d_L_law_207 : decode b_L_law 207 = .ok (.i2l, 1) := by decide +kernel
theorem d_L_law_208 : decode b_L_law 208 = .ok (.bipush 32, 2) := by decide +kernel
theorem d_L_law_210 : decode b_L_law 210 = .ok (.lshl, 1) := by decide +kernel
theorem d_L_law_211 : decode b_L_law 211 = .ok (.aload_n 0, 1) := by decide +kernel
theorem d_L_law_212 : decode b_L_law 212 = .ok (.iload_n 3, 1) := by decide +kernel
theorem d_L_law_213 : decode b_L_law 213 = .ok (.bipush 6, 2) := by decide +kernel
theorem d_L_law_215 : decode b_L_law 215 = .ok (.iadd, 1) := by decide +kernel
theorem d_L_law_216 : decode b_L_law 216 = .ok (.iaload, 1) := by decide +kernel
theorem d_L_law_217 : decode b_L_law 217 = .ok (.i2l, 1) := by decide +kernel
theorem d_L_law_218 : decode b_L_law 218 = .ok (.ldc2_w 13, 3) := by decide +kernel
theorem d_L_law_221 : decode b_L_law 221 = .ok (.land, 1) := by decide +kernel
theorem d_L_law_222 : decode b_L_law 222 = .ok (.lor, 1) := by decide +kernel
theorem d_L_law_223 : decode b_L_law 223 = .ok (.invokevirtual 19, 3) := by decide +kernel
theorem d_L_law_226 : decode b_L_law 226 = .ok (.if_icmp .eq 734, 3) := by decide +kernel
theorem d_L_law_229 : decode b_L_law 229 = .ok (.iconst 0, 1) := by decide +kernel
theorem d_L_law_230 : decode b_L_law 230 = .ok (.ireturn, 1) := by decide +kernel
theorem d_L_law_231 : decode b_L_law 231 = .ok (.aload_n 1, 1) := by decide +kernel
theorem d_L_law_232 : decode b_L_law 232 = .ok (.aload_n 0, 1) := by decide +kernel
theorem d_L_law_233 : decode b_L_law 233 = .ok (.iload_n 3, 1) := by decide +kernel
theorem d_L_law_234 : decode b_L_law 234 = .ok (.iconst 1, 1) := by decide +kernel
theorem d_L_law_235 : decode b_L_law 235 = .ok (.iadd, 1) := by decide +kernel
theorem d_L_law_236 : decode b_L_law 236 = .ok (.iaload, 1) := by decide +kernel
theorem d_L_law_237 : decode b_L_law 237 = .ok (.aload_n 0, 1) := by decide +kernel
theorem d_L_law_238 : decode b_L_law 238 = .ok (.iload_n 3, 1) := by decide +kernel
theorem d_L_law_239 : decode b_L_law 239 = .ok (.iconst 2, 1) := by decide +kernel
theorem d_L_law_240 : decode b_L_law 240 = .ok (.iadd, 1) := by decide +kernel
theorem d_L_law_241 : decode b_L_law 241 = .ok (.iaload, 1) := by decide +kernel
theorem d_L_law_242 : decode b_L_law 242 = .ok (.i2l, 1) := by decide +kernel
theorem d_L_law_243 : decode b_L_law 243 = .ok (.bipush 32, 2) := by decide +kernel
theorem d_L_law_245 : decode b_L_law 245 = .ok (.lshl, 1) := by decide +kernel
theorem d_L_law_246 : decode b_L_law 246 = .ok (.aload_n 0, 1) := by decide +kernel
theorem d_L_law_247 : decode b_L_law 247 = .ok (.iload_n 3, 1) := by decide +kernel
theorem d_L_law_248 : decode b_L_law 248 = .ok (.iconst 3, 1) := by decide +kernel
theorem d_L_law_249 : decode b_L_law 249 = .ok (.iadd, 1) := by decide +kernel
theorem d_L_law_250 : decode b_L_law 250 = .ok (.iaload, 1) := by decide +kernel
theorem d_L_law_251 : decode b_L_law 251 = .ok (.i2l, 1) := by decide +kernel
theorem d_L_law_252 : decode b_L_law 252 = .ok (.ldc2_w 13, 3) := by decide +kernel
theorem d_L_law_255 : decode b_L_law 255 = .ok (.land, 1) := by decide +kernel
theorem d_L_law_256 : decode b_L_law 256 = .ok (.lor, 1) := by decide +kernel
theorem d_L_law_257 : decode b_L_law 257 = .ok (.aload_n 0, 1) := by decide +kernel
theorem d_L_law_258 : decode b_L_law 258 = .ok (.iload_n 3, 1) := by decide +kernel
theorem d_L_law_259 : decode b_L_law 259 = .ok (.iconst 4, 1) := by decide +kernel
theorem d_L_law_260 : decode b_L_law 260 = .ok (.iadd, 1) := by decide +kernel
theorem d_L_law_261 : decode b_L_law 261 = .ok (.iaload, 1) := by decide +kernel
theorem d_L_law_262 : decode b_L_law 262 = .ok (.i2l, 1) := by decide +kernel
theorem d_L_law_263 : decode b_L_law 263 = .ok (.bipush 32, 2) := by decide +kernel
theorem d_L_law_265 : decode b_L_law 265 = .ok (.lshl, 1) := by decide +kernel
theorem d_L_law_266 : decode b_L_law 266 = .ok (.aload_n 0, 1) := by decide +kernel
theorem d_L_law_267 : decode b_L_law 267 = .ok (.iload_n 3, 1) := by decide +kernel
theorem d_L_law_268 : decode b_L_law 268 = .ok (.iconst 5, 1) := by decide +kernel
theorem d_L_law_269 : decode b_L_law 269 = .ok (.iadd, 1) := by decide +kernel
theorem d_L_law_270 : decode b_L_law 270 = .ok (.iaload, 1) := by decide +kernel
theorem d_L_law_271 : decode b_L_law 271 = .ok (.i2l, 1) := by decide +kernel
theorem d_L_law_272 : decode b_L_law 272 = .ok (.ldc2_w 13, 3) := by decide +kernel
theorem d_L_law_275 : decode b_L_law 275 = .ok (.land, 1) := by decide +kernel
theorem d_L_law_276 : decode b_L_law 276 = .ok (.lor, 1) := by decide +kernel
theorem d_L_law_277 : decode b_L_law 277 = .ok (.invokevirtual 20, 3) := by decide +kernel
theorem d_L_law_280 : decode b_L_law 280 = .ok (.aload_n 2, 1) := by decide +kernel
theorem d_L_law_281 : decode b_L_law 281 = .ok (.aload_n 0, 1) := by decide +kernel
theorem d_L_law_282 : decode b_L_law 282 = .ok (.iload_n 3, 1) := by decide +kernel
theorem d_L_law_283 : decode b_L_law 283 = .ok (.iconst 1, 1) := by decide +kernel
theorem d_L_law_284 : decode b_L_law 284 = .ok (.iadd, 1) := by decide +kernel
theorem d_L_law_285 : decode b_L_law 285 = .ok (.iaload, 1) := by decide +kernel
theorem d_L_law_286 : decode b_L_law 286 = .ok (.aload_n 0, 1) := by decide +kernel
theorem d_L_law_287 : decode b_L_law 287 = .ok (.iload_n 3, 1) := by decide +kernel
theorem d_L_law_288 : decode b_L_law 288 = .ok (.iconst 2, 1) := by decide +kernel
theorem d_L_law_289 : decode b_L_law 289 = .ok (.iadd, 1) := by decide +kernel
theorem d_L_law_290 : decode b_L_law 290 = .ok (.iaload, 1) := by decide +kernel
theorem d_L_law_291 : decode b_L_law 291 = .ok (.i2l, 1) := by decide +kernel
theorem d_L_law_292 : decode b_L_law 292 = .ok (.bipush 32, 2) := by decide +kernel
theorem d_L_law_294 : decode b_L_law 294 = .ok (.lshl, 1) := by decide +kernel
theorem d_L_law_295 : decode b_L_law 295 = .ok (.aload_n 0, 1) := by decide +kernel
theorem d_L_law_296 : decode b_L_law 296 = .ok (.iload_n 3, 1) := by decide +kernel
theorem d_L_law_297 : decode b_L_law 297 = .ok (.iconst 3, 1) := by decide +kernel
theorem d_L_law_298 : decode b_L_law 298 = .ok (.iadd, 1) := by decide +kernel
theorem d_L_law_299 : decode b_L_law 299 = .ok (.iaload, 1) := by decide +kernel
theorem d_L_law_300 : decode b_L_law 300 = .ok (.i2l, 1) := by decide +kernel
theorem d_L_law_301 : decode b_L_law 301 = .ok (.ldc2_w 13, 3) := by decide +kernel
theorem d_L_law_304 : decode b_L_law 304 = .ok (.land, 1) := by decide +kernel
theorem d_L_law_305 : decode b_L_law 305 = .ok (.lor, 1) := by decide +kernel
theorem d_L_law_306 : decode b_L_law 306 = .ok (.aload_n 0, 1) := by decide +kernel
theorem d_L_law_307 : decode b_L_law 307 = .ok (.iload_n 3, 1) := by decide +kernel
theorem d_L_law_308 : decode b_L_law 308 = .ok (.iconst 4, 1) := by decide +kernel
theorem d_L_law_309 : decode b_L_law 309 = .ok (.iadd, 1) := by decide +kernel
theorem d_L_law_310 : decode b_L_law 310 = .ok (.iaload, 1) := by decide +kernel
theorem d_L_law_311 : decode b_L_law 311 = .ok (.i2l, 1) := by decide +kernel
theorem d_L_law_312 : decode b_L_law 312 = .ok (.bipush 32, 2) := by decide +kernel
theorem d_L_law_314 : decode b_L_law 314 = .ok (.lshl, 1) := by decide +kernel
theorem d_L_law_315 : decode b_L_law 315 = .ok (.aload_n 0, 1) := by decide +kernel
theorem d_L_law_316 : decode b_L_law 316 = .ok (.iload_n 3, 1) := by decide +kernel
theorem d_L_law_317 : decode b_L_law 317 = .ok (.iconst 5, 1) := by decide +kernel
theorem d_L_law_318 : decode b_L_law 318 = .ok (.iadd, 1) := by decide +kernel
theorem d_L_law_319 : decode b_L_law 319 = .ok (.iaload, 1) := by decide +kernel
theorem d_L_law_320 : decode b_L_law 320 = .ok (.i2l, 1) := by decide +kernel
theorem d_L_law_321 : decode b_L_law 321 = .ok (.ldc2_w 13, 3) := by decide +kernel
theorem d_L_law_324 : decode b_L_law 324 = .ok (.land, 1) := by decide +kernel
theorem d_L_law_325 : decode b_L_law 325 = .ok (.lor, 1) := by decide +kernel
theorem d_L_law_326 : decode b_L_law 326 = .ok (.invokevirtual 24, 3) := by decide +kernel
theorem d_L_law_329 : decode b_L_law 329 = .ok (.if_icmp .eq 631, 3) := by decide +kernel
theorem d_L_law_332 : decode b_L_law 332 = .ok (.iconst 0, 1) := by decide +kernel
theorem d_L_law_333 : decode b_L_law 333 = .ok (.ireturn, 1) := by decide +kernel
theorem d_L_law_334 : decode b_L_law 334 = .ok (.aload_n 1, 1) := by decide +kernel
theorem d_L_law_335 : decode b_L_law 335 = .ok (.aload_n 0, 1) := by decide +kernel
theorem d_L_law_336 : decode b_L_law 336 = .ok (.iload_n 3, 1) := by decide +kernel
theorem d_L_law_337 : decode b_L_law 337 = .ok (.iconst 1, 1) := by decide +kernel
theorem d_L_law_338 : decode b_L_law 338 = .ok (.iadd, 1) := by decide +kernel
theorem d_L_law_339 : decode b_L_law 339 = .ok (.iaload, 1) := by decide +kernel
theorem d_L_law_340 : decode b_L_law 340 = .ok (.aload_n 0, 1) := by decide +kernel
theorem d_L_law_341 : decode b_L_law 341 = .ok (.iload_n 3, 1) := by decide +kernel
theorem d_L_law_342 : decode b_L_law 342 = .ok (.iconst 2, 1) := by decide +kernel
theorem d_L_law_343 : decode b_L_law 343 = .ok (.iadd, 1) := by decide +kernel
theorem d_L_law_344 : decode b_L_law 344 = .ok (.iaload, 1) := by decide +kernel
theorem d_L_law_345 : decode b_L_law 345 = .ok (.i2l, 1) := by decide +kernel
theorem d_L_law_346 : decode b_L_law 346 = .ok (.bipush 32, 2) := by decide +kernel
theorem d_L_law_348 : decode b_L_law 348 = .ok (.lshl, 1) := by decide +kernel
theorem d_L_law_349 : decode b_L_law 349 = .ok (.aload_n 0, 1) := by decide +kernel
theorem d_L_law_350 : decode b_L_law 350 = .ok (.iload_n 3, 1) := by decide +kernel
theorem d_L_law_351 : decode b_L_law 351 = .ok (.iconst 3, 1) := by decide +kernel
theorem d_L_law_352 : decode b_L_law 352 = .ok (.iadd, 1) := by decide +kernel
theorem d_L_law_353 : decode b_L_law 353 = .ok (.iaload, 1) := by decide +kernel
theorem d_L_law_354 : decode b_L_law 354 = .ok (.i2l, 1) := by decide +kernel
theorem d_L_law_355 : decode b_L_law 355 = .ok (.ldc2_w 13, 3) := by decide +kernel
theorem d_L_law_358 : decode b_L_law 358 = .ok (.land, 1) := by decide +kernel
theorem d_L_law_359 : decode b_L_law 359 = .ok (.lor, 1) := by decide +kernel
theorem d_L_law_360 : decode b_L_law 360 = .ok (.aload_n 0, 1) := by decide +kernel
theorem d_L_law_361 : decode b_L_law 361 = .ok (.iload_n 3, 1) := by decide +kernel
theorem d_L_law_362 : decode b_L_law 362 = .ok (.iconst 4, 1) := by decide +kernel
theorem d_L_law_363 : decode b_L_law 363 = .ok (.iadd, 1) := by decide +kernel
theorem d_L_law_364 : decode b_L_law 364 = .ok (.iaload, 1) := by decide +kernel
theorem d_L_law_365 : decode b_L_law 365 = .ok (.i2l, 1) := by decide +kernel
theorem d_L_law_366 : decode b_L_law 366 = .ok (.bipush 32, 2) := by decide +kernel
theorem d_L_law_368 : decode b_L_law 368 = .ok (.lshl, 1) := by decide +kernel
theorem d_L_law_369 : decode b_L_law 369 = .ok (.aload_n 0, 1) := by decide +kernel
theorem d_L_law_370 : decode b_L_law 370 = .ok (.iload_n 3, 1) := by decide +kernel
theorem d_L_law_371 : decode b_L_law 371 = .ok (.iconst 5, 1) := by decide +kernel
theorem d_L_law_372 : decode b_L_law 372 = .ok (.iadd, 1) := by decide +kernel
theorem d_L_law_373 : decode b_L_law 373 = .ok (.iaload, 1) := by decide +kernel
theorem d_L_law_374 : decode b_L_law 374 = .ok (.i2l, 1) := by decide +kernel
theorem d_L_law_375 : decode b_L_law 375 = .ok (.ldc2_w 13, 3) := by decide +kernel
theorem d_L_law_378 : decode b_L_law 378 = .ok (.land, 1) := by decide +kernel
theorem d_L_law_379 : decode b_L_law 379 = .ok (.lor, 1) := by decide +kernel
theorem d_L_law_380 : decode b_L_law 380 = .ok (.invokevirtual 25, 3) := by decide +kernel
theorem d_L_law_383 : decode b_L_law 383 = .ok (.aload_n 2, 1) := by decide +kernel
theorem d_L_law_384 : decode b_L_law 384 = .ok (.aload_n 0, 1) := by decide +kernel
theorem d_L_law_385 : decode b_L_law 385 = .ok (.iload_n 3, 1) := by decide +kernel
theorem d_L_law_386 : decode b_L_law 386 = .ok (.iconst 1, 1) := by decide +kernel
theorem d_L_law_387 : decode b_L_law 387 = .ok (.iadd, 1) := by decide +kernel
theorem d_L_law_388 : decode b_L_law 388 = .ok (.iaload, 1) := by decide +kernel
theorem d_L_law_389 : decode b_L_law 389 = .ok (.aload_n 0, 1) := by decide +kernel
theorem d_L_law_390 : decode b_L_law 390 = .ok (.iload_n 3, 1) := by decide +kernel
theorem d_L_law_391 : decode b_L_law 391 = .ok (.iconst 2, 1) := by decide +kernel
theorem d_L_law_392 : decode b_L_law 392 = .ok (.iadd, 1) := by decide +kernel
theorem d_L_law_393 : decode b_L_law 393 = .ok (.iaload, 1) := by decide +kernel
theorem d_L_law_394 : decode b_L_law 394 = .ok (.i2l, 1) := by decide +kernel
theorem d_L_law_395 : decode b_L_law 395 = .ok (.bipush 32, 2) := by decide +kernel
theorem d_L_law_397 : decode b_L_law 397 = .ok (.lshl, 1) := by decide +kernel
theorem d_L_law_398 : decode b_L_law 398 = .ok (.aload_n 0, 1) := by decide +kernel
theorem d_L_law_399 : decode b_L_law 399 = .ok (.iload_n 3, 1) := by decide +kernel
theorem d_L_law_400 : decode b_L_law 400 = .ok (.iconst 3, 1) := by decide +kernel
theorem d_L_law_401 : decode b_L_law 401 = .ok (.iadd, 1) := by decide +kernel
theorem d_L_law_402 : decode b_L_law 402 = .ok (.iaload, 1) := by decide +kernel
theorem d_L_law_403 : decode b_L_law 403 = .ok (.i2l, 1) := by decide +kernel
theorem d_L_law_404 : decode b_L_law 404 = .ok (.ldc2_w 13, 3) := by decide +kernel
theorem d_L_law_407 : decode b_L_law 407 = .ok (.land, 1) := by decide +kernel
theorem d_L_law_408 : decode b_L_law 408 = .ok (.lor, 1) := by decide +kernel
theorem d_L_law_409 : decode b_L_law 409 = .ok (.aload_n 0, 1) := by decide +kernel
theorem d_L_law_410 : decode b_L_law 410 = .ok (.iload_n 3, 1) := by decide +kernel
theorem d_L_law_411 : decode b_L_law 411 = .ok (.iconst 4, 1) := by decide +kernel
theorem d_L_law_412 : decode b_L_law 412 = .ok (.iadd, 1) := by decide +kernel
theorem d_L_law_413 : decode b_L_law 413 = .ok (.iaload, 1) := by decide +kernel
theorem d_L_law_414 : decode b_L_law 414 = .ok (.i2l, 1) := by decide +kernel
theorem d_L_law_415 : decode b_L_law 415 = .ok (.bipush 32, 2) := by decide +kernel
theorem d_L_law_417 : decode b_L_law 417 = .ok (.lshl, 1) := by decide +kernel
theorem d_L_law_418 : decode b_L_law 418 = .ok (.aload_n 0, 1) := by decide +kernel
theorem d_L_law_419 : decode b_L_law 419 = .ok (.iload_n 3, 1) := by decide +kernel
theorem d_L_law_420 : decode b_L_law 420 = .ok (.iconst 5, 1) := by decide +kernel
theorem d_L_law_421 : decode b_L_law 421 = .ok (.iadd, 1) := by decide +kernel
theorem d_L_law_422 : decode b_L_law 422 = .ok (.iaload, 1) := by decide +kernel
theorem d_L_law_423 : decode b_L_law 423 = .ok (.i2l, 1) := by decide +kernel
theorem d_L_law_424 : decode b_L_law 424 = .ok (.ldc2_w 13, 3) := by decide +kernel
theorem d_L_law_427 : decode b_L_law 427 = .ok (.land, 1) := by decide +kernel
theorem d_L_law_428 : decode b_L_law 428 = .ok (.lor, 1) := by decide +kernel
theorem d_L_law_429 : decode b_L_law 429 = .ok (.invokevirtual 29, 3) := by decide +kernel
theorem d_L_law_432 : decode b_L_law 432 = .ok (.if_icmp .eq 528, 3) := by decide +kernel
theorem d_L_law_435 : decode b_L_law 435 = .ok (.iconst 0, 1) := by decide +kernel
theorem d_L_law_436 : decode b_L_law 436 = .ok (.ireturn, 1) := by decide +kernel
theorem d_L_law_437 : decode b_L_law 437 = .ok (.aload_n 1, 1) := by decide +kernel
theorem d_L_law_438 : decode b_L_law 438 = .ok (.aload_n 0, 1) := by decide +kernel
theorem d_L_law_439 : decode b_L_law 439 = .ok (.iload_n 3, 1) := by decide +kernel
theorem d_L_law_440 : decode b_L_law 440 = .ok (.iconst 1, 1) := by decide +kernel
theorem d_L_law_441 : decode b_L_law 441 = .ok (.iadd, 1) := by decide +kernel
theorem d_L_law_442 : decode b_L_law 442 = .ok (.iaload, 1) := by decide +kernel
theorem d_L_law_443 : decode b_L_law 443 = .ok (.invokevirtual 30, 3) := by decide +kernel
theorem d_L_law_446 : decode b_L_law 446 = .ok (.aload_n 2, 1) := by decide +kernel
theorem d_L_law_447 : decode b_L_law 447 = .ok (.aload_n 0, 1) := by decide +kernel
theorem d_L_law_448 : decode b_L_law 448 = .ok (.iload_n 3, 1) := by decide +kernel
theorem d_L_law_449 : decode b_L_law 449 = .ok (.iconst 1, 1) := by decide +kernel
theorem d_L_law_450 : decode b_L_law 450 = .ok (.iadd, 1) := by decide +kernel
theorem d_L_law_451 : decode b_L_law 451 = .ok (.iaload, 1) := by decide +kernel
theorem d_L_law_452 : decode b_L_law 452 = .ok (.invokevirtual 34, 3) := by decide +kernel
theorem d_L_law_455 : decode b_L_law 455 = .ok (.if_icmp .eq 505, 3) := by decide +kernel
theorem d_L_law_458 : decode b_L_law 458 = .ok (.iconst 0, 1) := by decide +kernel
theorem d_L_law_459 : decode b_L_law 459 = .ok (.ireturn, 1) := by decide +kernel
theorem d_L_law_460 : decode b_L_law 460 = .ok (.aload_n 1, 1) := by decide +kernel
theorem d_L_law_461 : decode b_L_law 461 = .ok (.aload_n 0, 1) := by decide +kernel
theorem d_L_law_462 : decode b_L_law 462 = .ok (.iload_n 3, 1) := by decide +kernel
theorem d_L_law_463 : decode b_L_law 463 = .ok (.iconst 1, 1) := by decide +kernel
theorem d_L_law_464 : decode b_L_law 464 = .ok (.iadd, 1) := by decide +kernel
theorem d_L_law_465 : decode b_L_law 465 = .ok (.iaload, 1) := by decide +kernel
theorem d_L_law_466 : decode b_L_law 466 = .ok (.i2l, 1) := by decide +kernel
theorem d_L_law_467 : decode b_L_law 467 = .ok (.bipush 32, 2) := by decide +kernel
theorem d_L_law_469 : decode b_L_law 469 = .ok (.lshl, 1) := by decide +kernel
theorem d_L_law_470 : decode b_L_law 470 = .ok (.aload_n 0, 1) := by decide +kernel
theorem d_L_law_471 : decode b_L_law 471 = .ok (.iload_n 3, 1) := by decide +kernel
theorem d_L_law_472 : decode b_L_law 472 = .ok (.iconst 2, 1) := by decide +kernel
theorem d_L_law_473 : decode b_L_law 473 = .ok (.iadd, 1) := by decide +kernel
theorem d_L_law_474 : decode b_L_law 474 = .ok (.iaload, 1) := by decide +kernel
theorem d_L_law_475 : decode b_L_law 475 = .ok (.i2l, 1) := by decide +kernel
theorem d_L_law_476 : decode b_L_law 476 = .ok (.ldc2_w 13, 3) := by decide +kernel
theorem d_L_law_479 : decode b_L_law 479 = .ok (.land, 1) := by decide +kernel
theorem d_L_law_480 : decode b_L_law 480 = .ok (.lor, 1) := by decide +kernel
theorem d_L_law_481 : decode b_L_law 481 = .ok (.aload_n 0, 1) := by decide +kernel
theorem d_L_law_482 : decode b_L_law 482 = .ok (.iload_n 3, 1) := by decide +kernel
theorem d_L_law_483 : decode b_L_law 483 = .ok (.iconst 3, 1) := by decide +kernel
theorem d_L_law_484 : decode b_L_law 484 = .ok (.iadd, 1) := by decide +kernel
theorem d_L_law_485 : decode b_L_law 485 = .ok (.iaload, 1) := by decide +kernel
theorem d_L_law_486 : decode b_L_law 486 = .ok (.i2l, 1) := by decide +kernel
theorem d_L_law_487 : decode b_L_law 487 = .ok (.bipush 32, 2) := by decide +kernel
theorem d_L_law_489 : decode b_L_law 489 = .ok (.lshl, 1) := by decide +kernel
theorem d_L_law_490 : decode b_L_law 490 = .ok (.aload_n 0, 1) := by decide +kernel
theorem d_L_law_491 : decode b_L_law 491 = .ok (.iload_n 3, 1) := by decide +kernel
theorem d_L_law_492 : decode b_L_law 492 = .ok (.iconst 4, 1) := by decide +kernel
theorem d_L_law_493 : decode b_L_law 493 = .ok (.iadd, 1) := by decide +kernel
theorem d_L_law_494 : decode b_L_law 494 = .ok (.iaload, 1) := by decide +kernel
theorem d_L_law_495 : decode b_L_law 495 = .ok (.i2l, 1) := by decide +kernel
theorem d_L_law_496 : decode b_L_law 496 = .ok (.ldc2_w 13, 3) := by decide +kernel
theorem d_L_law_499 : decode b_L_law 499 = .ok (.land, 1) := by decide +kernel
theorem d_L_law_500 : decode b_L_law 500 = .ok (.lor, 1) := by decide +kernel
theorem d_L_law_501 : decode b_L_law 501 = .ok (.aload_n 0, 1) := by decide +kernel
theorem d_L_law_502 : decode b_L_law 502 = .ok (.iload_n 3, 1) := by decide +kernel
theorem d_L_law_503 : decode b_L_law 503 = .ok (.iconst 5, 1) := by decide +kernel
theorem d_L_law_504 : decode b_L_law 504 = .ok (.iadd, 1) := by decide +kernel
theorem d_L_law_505 : decode b_L_law 505 = .ok (.iaload, 1) := by decide +kernel
theorem d_L_law_506 : decode b_L_law 506 = .ok (.i2l, 1) := by decide +kernel
theorem d_L_law_507 : decode b_L_law 507 = .ok (.bipush 32, 2) := by decide +kernel
