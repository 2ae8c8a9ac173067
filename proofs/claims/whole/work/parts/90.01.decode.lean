theorem d_Lw_law_0 : decode b_Lw_law 0 = .ok (.new 7, 3) := by decide +kernel
theorem d_Lw_law_3 : decode b_Lw_law 3 = .ok (.dup, 1) := by decide +kernel
theorem d_Lw_law_4 : decode b_Lw_law 4 = .ok (.aload_n 0, 1) := by decide +kernel
theorem d_Lw_law_5 : decode b_Lw_law 5 = .ok (.iconst 0, 1) := by decide +kernel
theorem d_Lw_law_6 : decode b_Lw_law 6 = .ok (.invokestatic 9, 3) := by decide +kernel
theorem d_Lw_law_9 : decode b_Lw_law 9 = .ok (.aload_n 0, 1) := by decide +kernel
theorem d_Lw_law_10 : decode b_Lw_law 10 = .ok (.iconst 1, 1) := by decide +kernel
theorem d_Lw_law_11 : decode b_Lw_law 11 = .ok (.invokestatic 9, 3) := by decide +kernel
theorem d_Lw_law_14 : decode b_Lw_law 14 = .ok (.invokespecial 15, 3) := by decide +kernel
theorem d_Lw_law_17 : decode b_Lw_law 17 = .ok (.astore_n 1, 1) := by decide +kernel
theorem d_Lw_law_18 : decode b_Lw_law 18 = .ok (.new 18, 3) := by decide +kernel
theorem d_Lw_law_21 : decode b_Lw_law 21 = .ok (.dup, 1) := by decide +kernel
theorem d_Lw_law_22 : decode b_Lw_law 22 = .ok (.aload_n 0, 1) := by decide +kernel
theorem d_Lw_law_23 : decode b_Lw_law 23 = .ok (.iconst 0, 1) := by decide +kernel
theorem d_Lw_law_24 : decode b_Lw_law 24 = .ok (.invokestatic 9, 3) := by decide +kernel
theorem d_Lw_law_27 : decode b_Lw_law 27 = .ok (.aload_n 0, 1) := by decide +kernel
theorem d_Lw_law_28 : decode b_Lw_law 28 = .ok (.iconst 1, 1) := by decide +kernel
theorem d_Lw_law_29 : decode b_Lw_law 29 = .ok (.invokestatic 9, 3) := by decide +kernel
theorem d_Lw_law_32 : decode b_Lw_law 32 = .ok (.invokespecial 20, 3) := by decide +kernel
theorem d_Lw_law_35 : decode b_Lw_law 35 = .ok (.astore_n 2, 1) := by decide +kernel
theorem d_Lw_law_36 : decode b_Lw_law 36 = .ok (.iconst 2, 1) := by decide +kernel
theorem d_Lw_law_37 : decode b_Lw_law 37 = .ok (.istore_n 3, 1) := by decide +kernel
theorem d_Lw_law_38 : decode b_Lw_law 38 = .ok (.iload_n 3, 1) := by decide +kernel
theorem d_Lw_law_39 : decode b_Lw_law 39 = .ok (.aload_n 0, 1) := by decide +kernel
theorem d_Lw_law_40 : decode b_Lw_law 40 = .ok (.arraylength, 1) := by decide +kernel
theorem d_Lw_law_41 : decode b_Lw_law 41 = .ok (.bipush 7, 2) := by decide +kernel
theorem d_Lw_law_43 : decode b_Lw_law 43 = .ok (.isub, 1) := by decide +kernel
theorem d_Lw_law_44 : decode b_Lw_law 44 = .ok (.if_icmp .gt 651, 3) := by decide +kernel
theorem d_Lw_law_47 : decode b_Lw_law 47 = .ok (.aload_n 0, 1) := by decide +kernel
theorem d_Lw_law_48 : decode b_Lw_law 48 = .ok (.iload_n 3, 1) := by decide +kernel
theorem d_Lw_law_49 : decode b_Lw_law 49 = .ok (.iaload, 1) := by decide +kernel
theorem d_Lw_law_50 : decode b_Lw_law 50 = .ok (.bipush 31, 2) := by decide +kernel
theorem d_Lw_law_52 : decode b_Lw_law 52 = .ok (.iand, 1) := by decide +kernel
theorem d_Lw_law_53 : decode b_Lw_law 53 = .ok (.tableswitch 636 0 16 #[83, 158, 181, 214, 237, 270, 303, 366, 379, 412, 435, 458, 481, 514, 527, 570, 593], 83) := by decide +kernel
theorem d_Lw_law_136 : decode b_Lw_law 136 = .ok (.aload_n 1, 1) := by decide +kernel
theorem d_Lw_law_137 : decode b_Lw_law 137 = .ok (.aload_n 0, 1) := by decide +kernel
theorem d_Lw_law_138 : decode b_Lw_law 138 = .ok (.iload_n 3, 1) := by decide +kernel
theorem d_Lw_law_139 : decode b_Lw_law 139 = .ok (.iconst 1, 1) := by decide +kernel
theorem d_Lw_law_140 : decode b_Lw_law 140 = .ok (.iadd, 1) := by decide +kernel
theorem d_Lw_law_141 : decode b_Lw_law 141 = .ok (.iaload, 1) := by decide +kernel
theorem d_Lw_law_142 : decode b_Lw_law 142 = .ok (.aload_n 0, 1) := by decide +kernel
theorem d_Lw_law_143 : decode b_Lw_law 143 = .ok (.iload_n 3, 1) := by decide +kernel
theorem d_Lw_law_144 : decode b_Lw_law 144 = .ok (.iconst 2, 1) := by decide +kernel
theorem d_Lw_law_145 : decode b_Lw_law 145 = .ok (.iadd, 1) := by decide +kernel
theorem d_Lw_law_146 : decode b_Lw_law 146 = .ok (.iaload, 1) := by decide +kernel
theorem d_Lw_law_147 : decode b_Lw_law 147 = .ok (.aload_n 0, 1) := by decide +kernel
theorem d_Lw_law_148 : decode b_Lw_law 148 = .ok (.iload_n 3, 1) := by decide +kernel
theorem d_Lw_law_149 : decode b_Lw_law 149 = .ok (.iconst 3, 1) := by decide +kernel
theorem d_Lw_law_150 : decode b_Lw_law 150 = .ok (.iadd, 1) := by decide +kernel
theorem d_Lw_law_151 : decode b_Lw_law 151 = .ok (.iaload, 1) := by decide +kernel
theorem d_Lw_law_152 : decode b_Lw_law 152 = .ok (.aload_n 0, 1) := by decide +kernel
theorem d_Lw_law_153 : decode b_Lw_law 153 = .ok (.iload_n 3, 1) := by decide +kernel
theorem d_Lw_law_154 : decode b_Lw_law 154 = .ok (.iconst 4, 1) := by decide +kernel
theorem d_Lw_law_155 : decode b_Lw_law 155 = .ok (.iadd, 1) := by decide +kernel
theorem d_Lw_law_156 : decode b_Lw_law 156 = .ok (.iaload, 1) := by decide +kernel
theorem d_Lw_law_157 : decode b_Lw_law 157 = .ok (.aload_n 0, 1) := by decide +kernel
theorem d_Lw_law_158 : decode b_Lw_law 158 = .ok (.iload_n 3, 1) := by decide +kernel
theorem d_Lw_law_159 : decode b_Lw_law 159 = .ok (.iconst 5, 1) := by decide +kernel
theorem d_Lw_law_160 : decode b_Lw_law 160 = .ok (.iadd, 1) := by decide +kernel
theorem d_Lw_law_161 : decode b_Lw_law 161 = .ok (.iaload, 1) := by decide +kernel
theorem d_Lw_law_162 : decode b_Lw_law 162 = .ok (.aload_n 0, 1) := by decide +kernel
theorem d_Lw_law_163 : decode b_Lw_law 163 = .ok (.iload_n 3, 1) := by decide +kernel
theorem d_Lw_law_164 : decode b_Lw_law 164 = .ok (.bipush 6, 2) := by decide +kernel
theorem d_Lw_law_166 : decode b_Lw_law 166 = .ok (.iadd, 1) := by decide +kernel
theorem d_Lw_law_167 : decode b_Lw_law 167 = .ok (.iaload, 1) := by decide +kernel
theorem d_Lw_law_168 : decode b_Lw_law 168 = .ok (.invokevirtual 21, 3) := by decide +kernel
theorem d_Lw_law_171 : decode b_Lw_law 171 = .ok (.aload_n 2, 1) := by decide +kernel
theorem d_Lw_law_172 : decode b_Lw_law 172 = .ok (.aload_n 0, 1) := by decide +kernel
theorem d_Lw_law_173 : decode b_Lw_law 173 = .ok (.iload_n 3, 1) := by decide +kernel
theorem d_Lw_law_174 : decode b_Lw_law 174 = .ok (.iconst 1, 1) := by decide +kernel
theorem d_Lw_law_175 : decode b_Lw_law 175 = .ok (.iadd, 1) := by decide +kernel
theorem d_Lw_law_176 : decode b_Lw_law 176 = .ok (.iaload, 1) := by decide +kernel
theorem d_Lw_law_177 : decode b_Lw_law 177 = .ok (.aload_n 0, 1) := by decide +kernel
theorem d_Lw_law_178 : decode b_Lw_law 178 = .ok (.iload_n 3, 1) := by decide +kernel
theorem d_Lw_law_179 : decode b_Lw_law 179 = .ok (.iconst 2, 1) := by decide +kernel
theorem d_Lw_law_180 : decode b_Lw_law 180 = .ok (.iadd, 1) := by decide +kernel
theorem d_Lw_law_181 : decode b_Lw_law 181 = .ok (.iaload, 1) := by decide +kernel
theorem d_Lw_law_182 : decode b_Lw_law 182 = .ok (.aload_n 0, 1) := by decide +kernel
theorem d_Lw_law_183 : decode b_Lw_law 183 = .ok (.iload_n 3, 1) := by decide +kernel
theorem d_Lw_law_184 : decode b_Lw_law 184 = .ok (.iconst 3, 1) := by decide +kernel
theorem d_Lw_law_185 : decode b_Lw_law 185 = .ok (.iadd, 1) := by decide +kernel
theorem d_Lw_law_186 : decode b_Lw_law 186 = .ok (.iaload, 1) := by decide +kernel
theorem d_Lw_law_187 : decode b_Lw_law 187 = .ok (.aload_n 0, 1) := by decide +kernel
theorem d_Lw_law_188 : decode b_Lw_law 188 = .ok (.iload_n 3, 1) := by decide +kernel
theorem d_Lw_law_189 : decode b_Lw_law 189 = .ok (.iconst 4, 1) := by decide +kernel
theorem d_Lw_law_190 : decode b_Lw_law 190 = .ok (.iadd, 1) := by decide +kernel
theorem d_Lw_law_191 : decode b_Lw_law 191 = .ok (.iaload, 1) := by decide +kernel
theorem d_Lw_law_192 : decode b_Lw_law 192 = .ok (.aload_n 0, 1) := by decide +kernel
theorem d_Lw_law_193 : decode b_Lw_law 193 = .ok (.iload_n 3, 1) := by decide +kernel
theorem d_Lw_law_194 : decode b_Lw_law 194 = .ok (.iconst 5, 1) := by decide +kernel
theorem d_Lw_law_195 : decode b_Lw_law 195 = .ok (.iadd, 1) := by decide +kernel
theorem d_Lw_law_196 : decode b_Lw_law 196 = .ok (.iaload, 1) := by decide +kernel
theorem d_Lw_law_197 : decode b_Lw_law 197 = .ok (.aload_n 0, 1) := by decide +kernel
theorem d_Lw_law_198 : decode b_Lw_law 198 = .ok (.iload_n 3, 1) := by decide +kernel
theorem d_Lw_law_199 : decode b_Lw_law 199 = .ok (.bipush 6, 2) := by decide +kernel
theorem d_Lw_law_201 : decode b_Lw_law 201 = .ok (.iadd, 1) := by decide +kernel
theorem d_Lw_law_202 : decode b_Lw_law 202 = .ok (.iaload, 1) := by decide +kernel
theorem d_Lw_law_203 : decode b_Lw_law 203 = .ok (.invokevirtual 25, 3) := by decide +kernel
theorem d_Lw_law_206 : decode b_Lw_law 206 = .ok (.if_icmp .eq 483, 3) := by decide +kernel
theorem d_Lw_law_209 : decode b_Lw_law 209 = .ok (.iconst 0, 1) := by decide +kernel
theorem d_Lw_law_210 : decode b_Lw_law 210 = .ok (.ireturn, 1) := by decide +kernel
theorem d_Lw_law_211 : decode b_Lw_law 211 = .ok (.aload_n 1, 1) := by decide +kernel
theorem d_Lw_law_212 : decode b_Lw_law 212 = .ok (.aload_n 0, 1) := by decide +kernel
theorem d_Lw_law_213 : decode b_Lw_law 213 = .ok (.iload_n 3, 1) := by decide +kernel
theorem d_Lw_law_214 : decode b_Lw_law 214 = .ok (.iconst 1, 1) := by decide +kernel
theorem d_Lw_law_215 : decode b_Lw_law 215 = .ok (.iadd, 1) := by decide +kernel
theorem d_Lw_law_216 : decode b_Lw_law 216 = .ok (.iaload, 1) := by decide +kernel
theorem d_Lw_law_217 : decode b_Lw_law 217 = .ok (.invokevirtual 26, 3) := by decide +kernel
theorem d_Lw_law_220 : decode b_Lw_law 220 = .ok (.aload_n 2, 1) := by decide +kernel
theorem d_Lw_law_221 : decode b_Lw_law 221 = .ok (.aload_n 0, 1) := by decide +kernel
theorem d_Lw_law_222 : decode b_Lw_law 222 = .ok (.iload_n 3, 1) := by decide +kernel
theorem d_Lw_law_223 : decode b_Lw_law 223 = .ok (.iconst 1, 1) := by decide +kernel
theorem d_Lw_law_224 : decode b_Lw_law 224 = .ok (.iadd, 1) := by decide +kernel
theorem d_Lw_law_225 : decode b_Lw_law 225 = .ok (.iaload, 1) := by decide +kernel
theorem d_Lw_law_226 : decode b_Lw_law 226 = .ok (.invokevirtual 30, 3) := by decide +kernel
theorem d_Lw_law_229 : decode b_Lw_law 229 = .ok (.if_icmp .eq 460, 3) := by decide +kernel
theorem d_Lw_law_232 : decode b_Lw_law 232 = .ok (.iconst 0, 1) := by decide +kernel
theorem d_Lw_law_233 : decode b_Lw_law 233 = .ok (.ireturn, 1) := by decide +kernel
theorem d_Lw_law_234 : decode b_Lw_law 234 = .ok (.aload_n 1, 1) := by decide +kernel
theorem d_Lw_law_235 : decode b_Lw_law 235 = .ok (.aload_n 0, 1) := by decide +kernel
theorem d_Lw_law_236 : decode b_Lw_law 236 = .ok (.iload_n 3, 1) := by decide +kernel
theorem d_Lw_law_237 : decode b_Lw_law 237 = .ok (.iconst 1, 1) := by decide +kernel
theorem d_Lw_law_238 : decode b_Lw_law 238 = .ok (.iadd, 1) := by decide +kernel
theorem d_Lw_law_239 : decode b_Lw_law 239 = .ok (.iaload, 1) := by decide +kernel
theorem d_Lw_law_240 : decode b_Lw_law 240 = .ok (.aload_n 0, 1) := by decide +kernel
theorem d_Lw_law_241 : decode b_Lw_law 241 = .ok (.iload_n 3, 1) := by decide +kernel
theorem d_Lw_law_242 : decode b_Lw_law 242 = .ok (.iconst 2, 1) := by decide +kernel
theorem d_Lw_law_243 : decode b_Lw_law 243 = .ok (.iadd, 1) := by decide +kernel
theorem d_Lw_law_244 : decode b_Lw_law 244 = .ok (.iaload, 1) := by decide +kernel
theorem d_Lw_law_245 : decode b_Lw_law 245 = .ok (.invokevirtual 31, 3) := by decide +kernel
theorem d_Lw_law_248 : decode b_Lw_law 248 = .ok (.aload_n 2, 1) := by decide +kernel
theorem d_Lw_law_249 : decode b_Lw_law 249 = .ok (.aload_n 0, 1) := by decide +kernel
theorem d_Lw_law_250 : decode b_Lw_law 250 = .ok (.iload_n 3, 1) := by decide +kernel
theorem d_Lw_law_251 : decode b_Lw_law 251 = .ok (.iconst 1, 1) := by decide +kernel
theorem d_Lw_law_252 : decode b_Lw_law 252 = .ok (.iadd, 1) := by decide +kernel
theorem d_Lw_law_253 : decode b_Lw_law 253 = .ok (.iaload, 1) := by decide +kernel
theorem d_Lw_law_254 : decode b_Lw_law 254 = .ok (.aload_n 0, 1) := by decide +kernel
theorem d_Lw_law_255 : decode b_Lw_law 255 = .ok (.iload_n 3, 1) := by decide +kernel
theorem d_Lw_law_256 : decode b_Lw_law 256 = .ok (.iconst 2, 1) := by decide +kernel
theorem d_Lw_law_257 : decode b_Lw_law 257 = .ok (.iadd, 1) := by decide +kernel
theorem d_Lw_law_258 : decode b_Lw_law 258 = .ok (.iaload, 1) := by decide +kernel
theorem d_Lw_law_259 : decode b_Lw_law 259 = .ok (.invokevirtual 35, 3) := by decide +kernel
theorem d_Lw_law_262 : decode b_Lw_law 262 = .ok (.if_icmp .eq 427, 3) := by decide +kernel
theorem d_Lw_law_265 : decode b_Lw_law 265 = .ok (.iconst 0, 1) := by decide +kernel
theorem d_Lw_law_266 : decode b_Lw_law 266 = .ok (.ireturn, 1) := by decide +kernel
theorem d_Lw_law_267 : decode b_Lw_law 267 = .ok (.aload_n 1, 1) := by decide +kernel
theorem d_Lw_law_268 : decode b_Lw_law 268 = .ok (.aload_n 0, 1) := by decide +kernel
theorem d_Lw_law_269 : decode b_Lw_law 269 = .ok (.iload_n 3, 1) := by decide +kernel
theorem d_Lw_law_270 : decode b_Lw_law 270 = .ok (.iconst 1, 1) := by decide +kernel
theorem d_Lw_law_271 : decode b_Lw_law 271 = .ok (.iadd, 1) := by decide +kernel
theorem d_Lw_law_272 : decode b_Lw_law 272 = .ok (.iaload, 1) := by decide +kernel
theorem d_Lw_law_273 : decode b_Lw_law 273 = .ok (.invokevirtual 36, 3) := by decide +kernel
theorem d_Lw_law_276 : decode b_Lw_law 276 = .ok (.aload_n 2, 1) := by decide +kernel
theorem d_Lw_law_277 : decode b_Lw_law 277 = .ok (.aload_n 0, 1) := by decide +kernel
theorem d_Lw_law_278 : decode b_Lw_law 278 = .ok (.iload_n 3, 1) := by decide +kernel
theorem d_Lw_law_279 : decode b_Lw_law 279 = .ok (.iconst 1, 1) := by decide +kernel
theorem d_Lw_law_280 : decode b_Lw_law 280 = .ok (.iadd, 1) := by decide +kernel
theorem d_Lw_law_281 : decode b_Lw_law 281 = .ok (.iaload, 1) := by decide +kernel
theorem d_Lw_law_282 : decode b_Lw_law 282 = .ok (.invokevirtual 39, 3) := by decide +kernel
theorem d_Lw_law_285 : decode b_Lw_law 285 = .ok (.if_icmp .eq 404, 3) := by decide +kernel
theorem d_Lw_law_288 : decode b_Lw_law 288 = .ok (.iconst 0, 1) := by decide +kernel
theorem d_Lw_law_289 : decode b_Lw_law 289 = .ok (.ireturn, 1) := by decide +kernel
theorem d_Lw_law_290 : decode b_Lw_law 290 = .ok (.aload_n 1, 1) := by decide +kernel
theorem d_Lw_law_291 : decode b_Lw_law 291 = .ok (.aload_n 0, 1) := by decide +kernel
theorem d_Lw_law_292 : decode b_Lw_law 292 = .ok (.iload_n 3, 1) := by decide +kernel
theorem d_Lw_law_293 : decode b_Lw_law 293 = .ok (.iconst 1, 1) := by decide +kernel
theorem d_Lw_law_294 : decode b_Lw_law 294 = .ok (.iadd, 1) := by decide +kernel
theorem d_Lw_law_295 : decode b_Lw_law 295 = .ok (.iaload, 1) := by decide +kernel
theorem d_Lw_law_296 : decode b_Lw_law 296 = .ok (.aload_n 0, 1) := by decide +kernel
theorem d_Lw_law_297 : decode b_Lw_law 297 = .ok (.iload_n 3, 1) := by decide +kernel
theorem d_Lw_law_298 : decode b_Lw_law 298 = .ok (.iconst 2, 1) := by decide +kernel
theorem d_Lw_law_299 : decode b_Lw_law 299 = .ok (.iadd, 1) := by decide +kernel
theorem d_Lw_law_300 : decode b_Lw_law 300 = .ok (.iaload, 1) := by decide +kernel
theorem d_Lw_law_301 : decode b_Lw_law 301 = .ok (.invokevirtual 40, 3) := by decide +kernel
theorem d_Lw_law_304 : decode b_Lw_law 304 = .ok (.aload_n 2, 1) := by decide +kernel
theorem d_Lw_law_305 : decode b_Lw_law 305 = .ok (.aload_n 0, 1) := by decide +kernel
theorem d_Lw_law_306 : decode b_Lw_law 306 = .ok (.iload_n 3, 1) := by decide +kernel
theorem d_Lw_law_307 : decode b_Lw_law 307 = .ok (.iconst 1, 1) := by decide +kernel
theorem d_Lw_law_308 : decode b_Lw_law 308 = .ok (.iadd, 1) := by decide +kernel
theorem d_Lw_law_309 : decode b_Lw_law 309 = .ok (.iaload, 1) := by decide +kernel
theorem d_Lw_law_310 : decode b_Lw_law 310 = .ok (.aload_n 0, 1) := by decide +kernel
theorem d_Lw_law_311 : decode b_Lw_law 311 = .ok (.iload_n 3, 1) := by decide +kernel
theorem d_Lw_law_312 : decode b_Lw_law 312 = .ok (.iconst 2, 1) := by decide +kernel
theorem d_Lw_law_313 : decode b_Lw_law 313 = .ok (.iadd, 1) := by decide +kernel
theorem d_Lw_law_314 : decode b_Lw_law 314 = .ok (.iaload, 1) := by decide +kernel
theorem d_Lw_law_315 : decode b_Lw_law 315 = .ok (.invokevirtual 43, 3) := by decide +kernel
theorem d_Lw_law_318 : decode b_Lw_law 318 = .ok (.if_icmp .eq 371, 3) := by decide +kernel
theorem d_Lw_law_321 : decode b_Lw_law 321 = .ok (.iconst 0, 1) := by decide +kernel
theorem d_Lw_law_322 : decode b_Lw_law 322 = .ok (.ireturn, 1) := by decide +kernel
theorem d_Lw_law_323 : decode b_Lw_law 323 = .ok (.aload_n 1, 1) := by decide +kernel
theorem d_Lw_law_324 : decode b_Lw_law 324 = .ok (.aload_n 0, 1) := by decide +kernel
theorem d_Lw_law_325 : decode b_Lw_law 325 = .ok (.iload_n 3, 1) := by decide +kernel
theorem d_Lw_law_326 : decode b_Lw_law 326 = .ok (.iconst 1, 1) := by decide +kernel
theorem d_Lw_law_327 : decode b_Lw_law 327 = .ok (.iadd, 1) := by decide +kernel
theorem d_Lw_law_328 : decode b_Lw_law 328 = .ok (.iaload, 1) := by decide +kernel
theorem d_Lw_law_329 : decode b_Lw_law 329 = .ok (.aload_n 0, 1) := by decide +kernel
theorem d_Lw_law_330 : decode b_Lw_law 330 = .ok (.iload_n 3, 1) := by decide +kernel
theorem d_Lw_law_331 : decode b_Lw_law 331 = .ok (.iconst 2, 1) := by decide +kernel
theorem d_Lw_law_332 : decode b_Lw_law 332 = .ok (.iadd, 1) := by decide +kernel
theorem d_Lw_law_333 : decode b_Lw_law 333 = .ok (.iaload, 1) := by decide +kernel
theorem d_Lw_law_334 : decode b_Lw_law 334 = .ok (.invokevirtual 44, 3) := by decide +kernel
theorem d_Lw_law_337 : decode b_Lw_law 337 = .ok (.aload_n 2, 1) := by decide +kernel
theorem d_Lw_law_338 : decode b_Lw_law 338 = .ok (.aload_n 0, 1) := by decide +kernel
theorem d_Lw_law_339 : decode b_Lw_law 339 = .ok (.iload_n 3, 1) := by decide +kernel
theorem d_Lw_law_340 : decode b_Lw_law 340 = .ok (.iconst 1, 1) := by decide +kernel
theorem d_Lw_law_341 : decode b_Lw_law 341 = .ok (.iadd, 1) := by decide +kernel
theorem d_Lw_law_342 : decode b_Lw_law 342 = .ok (.iaload, 1) := by decide +kernel
theorem d_Lw_law_343 : decode b_Lw_law 343 = .ok (.aload_n 0, 1) := by decide +kernel
theorem d_Lw_law_344 : decode b_Lw_law 344 = .ok (.iload_n 3, 1) := by decide +kernel
theorem d_Lw_law_345 : decode b_Lw_law 345 = .ok (.iconst 2, 1) := by decide +kernel
theorem d_Lw_law_346 : decode b_Lw_law 346 = .ok (.iadd, 1) := by decide +kernel
theorem d_Lw_law_347 : decode b_Lw_law 347 = .ok (.iaload, 1) := by decide +kernel
theorem d_Lw_law_348 : decode b_Lw_law 348 = .ok (.invokevirtual 47, 3) := by decide +kernel
theorem d_Lw_law_351 : decode b_Lw_law 351 = .ok (.if_icmp .eq 338, 3) := by decide +kernel
theorem d_Lw_law_354 : decode b_Lw_law 354 = .ok (.iconst 0, 1) := by decide +kernel
theorem d_Lw_law_355 : decode b_Lw_law 355 = .ok (.ireturn, 1) := by decide +kernel
theorem d_Lw_law_356 : decode b_Lw_law 356 = .ok (.aload_n 1, 1) := by decide +kernel
theorem d_Lw_law_357 : decode b_Lw_law 357 = .ok (.aload_n 0, 1) := by decide +kernel
theorem d_Lw_law_358 : decode b_Lw_law 358 = .ok (.iload_n 3, 1) := by decide +kernel
theorem d_Lw_law_359 : decode b_Lw_law 359 = .ok (.iconst 1, 1) := by decide +kernel
theorem d_Lw_law_360 : decode b_Lw_law 360 = .ok (.iadd, 1) := by decide +kernel
theorem d_Lw_law_361 : decode b_Lw_law 361 = .ok (.iaload, 1) := by decide +kernel
theorem d_Lw_law_362 : decode b_Lw_law 362 = .ok (.i2l, 1) := by decide +kernel
theorem d_Lw_law_363 : decode b_Lw_law 363 = .ok (.bipush 32, 2) := by decide +kernel
theorem d_Lw_law_365 : decode b_Lw_law 365 = .ok (.lshl, 1) := by decide +kernel
theorem d_Lw_law_366 : decode b_Lw_law 366 = .ok (.aload_n 0, 1) := by decide +kernel
theorem d_Lw_law_367 : decode b_Lw_law 367 = .ok (.iload_n 3, 1) := by decide +kernel
theorem d_Lw_law_368 : decode b_Lw_law 368 = .ok (.iconst 2, 1) := by decide +kernel
theorem d_Lw_law_369 : decode b_Lw_law 369 = .ok (.iadd, 1) := by decide +kernel
theorem d_Lw_law_370 : decode b_Lw_law 370 = .ok (.iaload, 1) := by decide +kernel
theorem d_Lw_law_371 : decode b_Lw_law 371 = .ok (.i2l, 1) := by decide +kernel
theorem d_Lw_law_372 : decode b_Lw_law 372 = .ok (.ldc2_w 48, 3) := by decide +kernel
theorem d_Lw_law_375 : decode b_Lw_law 375 = .ok (.land, 1) := by decide +kernel
theorem d_Lw_law_376 : decode b_Lw_law 376 = .ok (.lor, 1) := by decide +kernel
theorem d_Lw_law_377 : decode b_Lw_law 377 = .ok (.aload_n 0, 1) := by decide +kernel
theorem d_Lw_law_378 : decode b_Lw_law 378 = .ok (.iload_n 3, 1) := by decide +kernel
theorem d_Lw_law_379 : decode b_Lw_law 379 = .ok (.iconst 3, 1) := by decide +kernel
theorem d_Lw_law_380 : decode b_Lw_law 380 = .ok (.iadd, 1) := by decide +kernel
theorem d_Lw_law_381 : decode b_Lw_law 381 = .ok (.iaload, 1) := by decide +kernel
theorem d_Lw_law_382 : decode b_Lw_law 382 = .ok (.invokevirtual 50, 3) := by decide +kernel
theorem d_Lw_law_385 : decode b_Lw_law 385 = .ok (.aload_n 2, 1) := by decide +kernel
theorem d_Lw_law_386 : decode b_Lw_law 386 = .ok (.aload_n 0, 1) := by decide +kernel
theorem d_Lw_law_387 : decode b_Lw_law 387 = .ok (.iload_n 3, 1) := by decide +kernel
theorem d_Lw_law_388 : decode b_Lw_law 388 = .ok (.iconst 1, 1) := by decide +kernel
theorem d_Lw_law_389 : decode b_Lw_law 389 = .ok (.iadd, 1) := by decide +kernel
theorem d_Lw_law_390 : decode b_Lw_law 390 = .ok (.iaload, 1) := by decide +kernel
theorem d_Lw_law_391 : decode b_Lw_law 391 = .ok (.i2l, 1) := by decide +kernel
theorem d_Lw_law_392 : decode b_Lw_law 392 = .ok (.bipush 32, 2) := by decide +kernel
theorem d_Lw_law_394 : decode b_Lw_law 394 = .ok (.lshl, 1) := by decide +kernel
theorem d_Lw_law_395 : decode b_Lw_law 395 = .ok (.aload_n 0, 1) := by decide +kernel
theorem d_Lw_law_396 : decode b_Lw_law 396 = .ok (.iload_n 3, 1) := by decide +kernel
theorem d_Lw_law_397 : decode b_Lw_law 397 = .ok (.iconst 2, 1) := by decide +kernel
theorem d_Lw_law_398 : decode b_Lw_law 398 = .ok (.iadd, 1) := by decide +kernel
theorem d_Lw_law_399 : decode b_Lw_law 399 = .ok (.iaload, 1) := by decide +kernel
theorem d_Lw_law_400 : decode b_Lw_law 400 = .ok (.i2l, 1) := by decide +kernel
theorem d_Lw_law_401 : decode b_Lw_law 401 = .ok (.ldc2_w 48, 3) := by decide +kernel
theorem d_Lw_law_404 : decode b_Lw_law 404 = .ok (.land, 1) := by decide +kernel
theorem d_Lw_law_405 : decode b_Lw_law 405 = .ok (.lor, 1) := by decide +kernel
theorem d_Lw_law_406 : decode b_Lw_law 406 = .ok (.aload_n 0, 1) := by decide +kernel
theorem d_Lw_law_407 : decode b_Lw_law 407 = .ok (.iload_n 3, 1) := by decide +kernel
theorem d_Lw_law_408 : decode b_Lw_law 408 = .ok (.iconst 3, 1) := by decide +kernel
theorem d_Lw_law_409 : decode b_Lw_law 409 = .ok (.iadd, 1) := by decide +kernel
theorem d_Lw_law_410 : decode b_Lw_law 410 = .ok (.iaload, 1) := by decide +kernel
theorem d_Lw_law_411 : decode b_Lw_law 411 = .ok (.invokevirtual 54, 3) := by decide +kernel
theorem d_Lw_law_414 : decode b_Lw_law 414 = .ok (.if_icmp .eq 275, 3) := by decide +kernel
theorem d_Lw_law_417 : decode b_Lw_law 417 = .ok (.iconst 0, 1) := by decide +kernel
theorem d_Lw_law_418 : decode b_Lw_law 418 = .ok (.ireturn, 1) := by decide +kernel
theorem d_Lw_law_419 : decode b_Lw_law 419 = .ok (.aload_n 1, 1) := by decide +kernel
theorem d_Lw_law_420 : decode b_Lw_law 420 = .ok (.invokevirtual 55, 3) := by decide +kernel
theorem d_Lw_law_423 : decode b_Lw_law 423 = .ok (.aload_n 2, 1) := by decide +kernel
theorem d_Lw_law_424 : decode b_Lw_law 424 = .ok (.invokevirtual 59, 3) := by decide +kernel
theorem d_Lw_law_427 : decode b_Lw_law 427 = .ok (.if_icmp .eq 262, 3) := by decide +kernel
theorem d_Lw_law_430 : decode b_Lw_law 430 = .ok (.iconst 0, 1) := by decide +kernel
theorem d_Lw_law_431 : decode b_Lw_law 431 = .ok (.ireturn, 1) := by decide +kernel
theorem d_Lw_law_432 : decode b_Lw_law 432 = .ok (.aload_n 1, 1) := by decide +kernel
theorem d_Lw_law_433 : decode b_Lw_law 433 = .ok (.aload_n 0, 1) := by decide +kernel
theorem d_Lw_law_434 : decode b_Lw_law 434 = .ok (.iload_n 3, 1) := by decide +kernel
theorem d_Lw_law_435 : decode b_Lw_law 435 = .ok (.iconst 1, 1) := by decide +kernel
theorem d_Lw_law_436 : decode b_Lw_law 436 = .ok (.iadd, 1) := by decide +kernel
theorem d_Lw_law_437 : decode b_Lw_law 437 = .ok (.iaload, 1) := by decide +kernel
theorem d_Lw_law_438 : decode b_Lw_law 438 = .ok (.aload_n 0, 1) := by decide +kernel
theorem d_Lw_law_439 : decode b_Lw_law 439 = .ok (.iload_n 3, 1) := by decide +kernel
theorem d_Lw_law_440 : decode b_Lw_law 440 = .ok (.iconst 2, 1) := by decide +kernel
theorem d_Lw_law_441 : decode b_Lw_law 441 = .ok (.iadd, 1) := by decide +kernel
theorem d_Lw_law_442 : decode b_Lw_law 442 = .ok (.iaload, 1) := by decide +kernel
theorem d_Lw_law_443 : decode b_Lw_law 443 = .ok (.invokevirtual 60, 3) := by decide +kernel
theorem d_Lw_law_446 : decode b_Lw_law 446 = .ok (.aload_n 2, 1) := by decide +kernel
theorem d_Lw_law_447 : decode b_Lw_law 447 = .ok (.aload_n 0, 1) := by decide +kernel
theorem d_Lw_law_448 : decode b_Lw_law 448 = .ok (.iload_n 3, 1) := by decide +kernel
theorem d_Lw_law_449 : decode b_Lw_law 449 = .ok (.iconst 1, 1) := by decide +kernel
theorem d_Lw_law_450 : decode b_Lw_law 450 = .ok (.iadd, 1) := by decide +kernel
theorem d_Lw_law_451 : decode b_Lw_law 451 = .ok (.iaload, 1) := by decide +kernel
theorem d_Lw_law_452 : decode b_Lw_law 452 = .ok (.aload_n 0, 1) := by decide +kernel
theorem d_Lw_law_453 : decode b_Lw_law 453 = .ok (.iload_n 3, 1) := by decide +kernel
theorem d_Lw_law_454 : decode b_Lw_law 454 = .ok (.iconst 2, 1) := by decide +kernel
theorem d_Lw_law_455 : decode b_Lw_law 455 = .ok (.iadd, 1) := by decide +kernel
theorem d_Lw_law_456 : decode b_Lw_law 456 = .ok (.iaload, 1) := by decide +kernel
theorem d_Lw_law_457 : decode b_Lw_law 457 = .ok (.invokevirtual 63, 3) := by decide +kernel
theorem d_Lw_law_460 : decode b_Lw_law 460 = .ok (.if_icmp .eq 229, 3) := by decide +kernel
theorem d_Lw_law_463 : decode b_Lw_law 463 = .ok (.iconst 0, 1) := by decide +kernel
theorem d_Lw_law_464 : decode b_Lw_law 464 = .ok (.ireturn, 1) := by decide +kernel
theorem d_Lw_law_465 : decode b_Lw_law 465 = .ok (.aload_n 1, 1) := by decide +kernel
theorem d_Lw_law_466 : decode b_Lw_law 466 = .ok (.aload_n 0, 1) := by decide +kernel
theorem d_Lw_law_467 : decode b_Lw_law 467 = .ok (.iload_n 3, 1) := by decide +kernel
theorem d_Lw_law_468 : decode b_Lw_law 468 = .ok (.iconst 1, 1) := by decide +kernel
theorem d_Lw_law_469 : decode b_Lw_law 469 = .ok (.iadd, 1) := by decide +kernel
theorem d_Lw_law_470 : decode b_Lw_law 470 = .ok (.iaload, 1) := by decide +kernel
theorem d_Lw_law_471 : decode b_Lw_law 471 = .ok (.invokevirtual 64, 3) := by decide +kernel
theorem d_Lw_law_474 : decode b_Lw_law 474 = .ok (.aload_n 2, 1) := by decide +kernel
theorem d_Lw_law_475 : decode b_Lw_law 475 = .ok (.aload_n 0, 1) := by decide +kernel
theorem d_Lw_law_476 : decode b_Lw_law 476 = .ok (.iload_n 3, 1) := by decide +kernel
theorem d_Lw_law_477 : decode b_Lw_law 477 = .ok (.iconst 1, 1) := by decide +kernel
theorem d_Lw_law_478 : decode b_Lw_law 478 = .ok (.iadd, 1) := by decide +kernel
theorem d_Lw_law_479 : decode b_Lw_law 479 = .ok (.iaload, 1) := by decide +kernel
theorem d_Lw_law_480 : decode b_Lw_law 480 = .ok (.invokevirtual 67, 3) := by decide +kernel
theorem d_Lw_law_483 : decode b_Lw_law 483 = .ok (.if_icmp .eq 206, 3) := by decide +kernel
theorem d_Lw_law_486 : decode b_Lw_law 486 = .ok (.iconst 0, 1) := by decide +kernel
theorem d_Lw_law_487 : decode b_Lw_law 487 = .ok (.ireturn, 1) := by decide +kernel
theorem d_Lw_law_488 : decode b_Lw_law 488 = .ok (.aload_n 1, 1) := by decide +kernel
theorem d_Lw_law_489 : decode b_Lw_law 489 = .ok (.aload_n 0, 1) := by decide +kernel
theorem d_Lw_law_490 : decode b_Lw_law 490 = .ok (.iload_n 3, 1) := by decide +kernel
theorem d_Lw_law_491 : decode b_Lw_law 491 = .ok (.iconst 1, 1) := by decide +kernel
theorem d_Lw_law_492 : decode b_Lw_law 492 = .ok (.iadd, 1) := by decide +kernel
theorem d_Lw_law_493 : decode b_Lw_law 493 = .ok (.iaload, 1) := by decide +kernel
theorem d_Lw_law_494 : decode b_Lw_law 494 = .ok (.invokevirtual 68, 3) := by decide +kernel
theorem d_Lw_law_497 : decode b_Lw_law 497 = .ok (.aload_n 2, 1) := by decide +kernel
theorem d_Lw_law_498 : decode b_Lw_law 498 = .ok (.aload_n 0, 1) := by decide +kernel
theorem d_Lw_law_499 : decode b_Lw_law 499 = .ok (.iload_n 3, 1) := by decide +kernel
theorem d_Lw_law_500 : decode b_Lw_law 500 = .ok (.iconst 1, 1) := by decide +kernel
theorem d_Lw_law_501 : decode b_Lw_law 501 = .ok (.iadd, 1) := by decide +kernel
theorem d_Lw_law_502 : decode b_Lw_law 502 = .ok (.iaload, 1) := by decide +kernel
theorem d_Lw_law_503 : decode b_Lw_law 503 = .ok (.invokevirtual 71, 3) := by decide +kernel
theorem d_Lw_law_506 : decode b_Lw_law 506 = .ok (.if_icmp .eq 183, 3) := by decide +kernel
theorem d_Lw_law_509 : decode b_Lw_law 509 = .ok (.iconst 0, 1) := by decide +kernel
theorem d_Lw_law_510 : decode b_Lw_law 510 = .ok (.ireturn, 1) := by decide +kernel
theorem d_Lw_law_511 : decode b_Lw_law 511 = .ok (.aload_n 1, 1) := by decide +kernel
theorem d_Lw_law_512 : decode b_Lw_law 512 = .ok (.aload_n 0, 1) := by decide +kernel
theorem d_Lw_law_513 : decode b_Lw_law 513 = .ok (.iload_n 3, 1) := by decide +kernel
theorem d_Lw_law_514 : decode b_Lw_law 514 = .ok (.iconst 1, 1) := by decide +kernel
theorem d_Lw_law_515 : decode b_Lw_law 515 = .ok (.iadd, 1) := by decide +kernel
theorem d_Lw_law_516 : decode b_Lw_law 516 = .ok (.iaload, 1) := by decide +kernel
theorem d_Lw_law_517 : decode b_Lw_law 517 = .ok (.invokevirtual 72, 3) := by decide +kernel
theorem d_Lw_law_520 : decode b_Lw_law 520 = .ok (.aload_n 2, 1) := by decide +kernel
theorem d_Lw_law_521 : decode b_Lw_law 521 = .ok (.aload_n 0, 1) := by decide +kernel
theorem d_Lw_law_522 : decode b_Lw_law 522 = .ok (.iload_n 3, 1) := by decide +kernel
theorem d_Lw_law_523 : decode b_Lw_law 523 = .ok (.iconst 1, 1) := by decide +kernel
theorem d_Lw_law_524 : decode b_Lw_law 524 = .ok (.iadd, 1) := by decide +kernel
theorem d_Lw_law_525 : decode b_Lw_law 525 = .ok (.iaload, 1) := by decide +kernel
theorem d_Lw_law_526 : decode b_Lw_law 526 = .ok (.invokevirtual 75, 3) := by decide +kernel
theorem d_Lw_law_529 : decode b_Lw_law 529 = .ok (.if_icmp .eq 160, 3) := by decide +kernel
theorem d_Lw_law_532 : decode b_Lw_law 532 = .ok (.iconst 0, 1) := by decide +kernel
theorem d_Lw_law_533 : decode b_Lw_law 533 = .ok (.ireturn, 1) := by decide +kernel
theorem d_Lw_law_534 : decode b_Lw_law 534 = .ok (.aload_n 1, 1) := by decide +kernel
theorem d_Lw_law_535 : decode b_Lw_law 535 = .ok (.aload_n 0, 1) := by decide +kernel
theorem d_Lw_law_536 : decode b_Lw_law 536 = .ok (.iload_n 3, 1) := by decide +kernel
theorem d_Lw_law_537 : decode b_Lw_law 537 = .ok (.iconst 1, 1) := by decide +kernel
theorem d_Lw_law_538 : decode b_Lw_law 538 = .ok (.iadd, 1) := by decide +kernel
theorem d_Lw_law_539 : decode b_Lw_law 539 = .ok (.iaload, 1) := by decide +kernel
theorem d_Lw_law_540 : decode b_Lw_law 540 = .ok (.aload_n 0, 1) := by decide +kernel
theorem d_Lw_law_541 : decode b_Lw_law 541 = .ok (.iload_n 3, 1) := by decide +kernel
theorem d_Lw_law_542 : decode b_Lw_law 542 = .ok (.iconst 2, 1) := by decide +kernel
theorem d_Lw_law_543 : decode b_Lw_law 543 = .ok (.iadd, 1) := by decide +kernel
theorem d_Lw_law_544 : decode b_Lw_law 544 = .ok (.iaload, 1) := by decide +kernel
theorem d_Lw_law_545 : decode b_Lw_law 545 = .ok (.invokevirtual 76, 3) := by decide +kernel
theorem d_Lw_law_548 : decode b_Lw_law 548 = .ok (.aload_n 2, 1) := by decide +kernel
theorem d_Lw_law_549 : decode b_Lw_law 549 = .ok (.aload_n 0, 1) := by decide +kernel
theorem d_Lw_law_550 : decode b_Lw_law 550 = .ok (.iload_n 3, 1) := by decide +kernel
theorem d_Lw_law_551 : decode b_Lw_law 551 = .ok (.iconst 1, 1) := by decide +kernel
theorem d_Lw_law_552 : decode b_Lw_law 552 = .ok (.iadd, 1) := by decide +kernel
theorem d_Lw_law_553 : decode b_Lw_law 553 = .ok (.iaload, 1) := by decide +kernel
theorem d_Lw_law_554 : decode b_Lw_law 554 = .ok (.aload_n 0, 1) := by decide +kernel
theorem d_Lw_law_555 : decode b_Lw_law 555 = .ok (.iload_n 3, 1) := by decide +kernel
theorem d_Lw_law_556 : decode b_Lw_law 556 = .ok (.iconst 2, 1) := by decide +kernel
theorem d_Lw_law_557 : decode b_Lw_law 557 = .ok (.iadd, 1) := by decide +kernel
theorem d_Lw_law_558 : decode b_Lw_law 558 = .ok (.iaload, 1) := by decide +kernel
theorem d_Lw_law_559 : decode b_Lw_law 559 = .ok (.invokevirtual 79, 3) := by decide +kernel
theorem d_Lw_law_562 : decode b_Lw_law 562 = .ok (.if_icmp .eq 127, 3) := by decide +kernel
theorem d_Lw_law_565 : decode b_Lw_law 565 = .ok (.iconst 0, 1) := by decide +kernel
theorem d_Lw_law_566 : decode b_Lw_law 566 = .ok (.ireturn, 1) := by decide +kernel
theorem d_Lw_law_567 : decode b_Lw_law 567 = .ok (.aload_n 1, 1) := by decide +kernel
theorem d_Lw_law_568 : decode b_Lw_law 568 = .ok (.invokevirtual 80, 3) := by decide +kernel
theorem d_Lw_law_571 : decode b_Lw_law 571 = .ok (.aload_n 2, 1) := by decide +kernel
theorem d_Lw_law_572 : decode b_Lw_law 572 = .ok (.invokevirtual 83, 3) := by decide +kernel
theorem d_Lw_law_575 : decode b_Lw_law 575 = .ok (.if_icmp .eq 114, 3) := by decide +kernel
theorem d_Lw_law_578 : decode b_Lw_law 578 = .ok (.iconst 0, 1) := by decide +kernel
theorem d_Lw_law_579 : decode b_Lw_law 579 = .ok (.ireturn, 1) := by decide +kernel
theorem d_Lw_law_580 : decode b_Lw_law 580 = .ok (.aload_n 1, 1) := by decide +kernel
theorem d_Lw_law_581 : decode b_Lw_law 581 = .ok (.aload_n 0, 1) := by decide +kernel
theorem d_Lw_law_582 : decode b_Lw_law 582 = .ok (.iload_n 3, 1) := by decide +kernel
theorem d_Lw_law_583 : decode b_Lw_law 583 = .ok (.iconst 1, 1) := by decide +kernel
theorem d_Lw_law_584 : decode b_Lw_law 584 = .ok (.iadd, 1) := by decide +kernel
theorem d_Lw_law_585 : decode b_Lw_law 585 = .ok (.iaload, 1) := by decide +kernel
theorem d_Lw_law_586 : decode b_Lw_law 586 = .ok (.aload_n 0, 1) := by decide +kernel
theorem d_Lw_law_587 : decode b_Lw_law 587 = .ok (.iload_n 3, 1) := by decide +kernel
theorem d_Lw_law_588 : decode b_Lw_law 588 = .ok (.iconst 2, 1) := by decide +kernel
theorem d_Lw_law_589 : decode b_Lw_law 589 = .ok (.iadd, 1) := by decide +kernel
theorem d_Lw_law_590 : decode b_Lw_law 590 = .ok (.iaload, 1) := by decide +kernel
theorem d_Lw_law_591 : decode b_Lw_law 591 = .ok (.aload_n 0, 1) := by decide +kernel
theorem d_Lw_law_592 : decode b_Lw_law 592 = .ok (.iload_n 3, 1) := by decide +kernel
theorem d_Lw_law_593 : decode b_Lw_law 593 = .ok (.iconst 3, 1) := by decide +kernel
theorem d_Lw_law_594 : decode b_Lw_law 594 = .ok (.iadd, 1) := by decide +kernel
theorem d_Lw_law_595 : decode b_Lw_law 595 = .ok (.iaload, 1) := by decide +kernel
theorem d_Lw_law_596 : decode b_Lw_law 596 = .ok (.invokevirtual 84, 3) := by decide +kernel
theorem d_Lw_law_599 : decode b_Lw_law 599 = .ok (.aload_n 2, 1) := by decide +kernel
theorem d_Lw_law_600 : decode b_Lw_law 600 = .ok (.aload_n 0, 1) := by decide +kernel
theorem d_Lw_law_601 : decode b_Lw_law 601 = .ok (.iload_n 3, 1) := by decide +kernel
theorem d_Lw_law_602 : decode b_Lw_law 602 = .ok (.iconst 1, 1) := by decide +kernel
theorem d_Lw_law_603 : decode b_Lw_law 603 = .ok (.iadd, 1) := by decide +kernel
theorem d_Lw_law_604 : decode b_Lw_law 604 = .ok (.iaload, 1) := by decide +kernel
theorem d_Lw_law_605 : decode b_Lw_law 605 = .ok (.aload_n 0, 1) := by decide +kernel
theorem d_Lw_law_606 : decode b_Lw_law 606 = .ok (.iload_n 3, 1) := by decide +kernel
theorem d_Lw_law_607 : decode b_Lw_law 607 = .ok (.iconst 2, 1) := by decide +kernel
theorem d_Lw_law_608 : decode b_Lw_law 608 = .ok (.iadd, 1) := by decide +kernel
theorem d_Lw_law_609 : decode b_Lw_law 609 = .ok (.iaload, 1) := by decide +kernel
theorem d_Lw_law_610 : decode b_Lw_law 610 = .ok (.aload_n 0, 1) := by decide +kernel
theorem d_Lw_law_611 : decode b_Lw_law 611 = .ok (.iload_n 3, 1) := by decide +kernel
theorem d_Lw_law_612 : decode b_Lw_law 612 = .ok (.iconst 3, 1) := by decide +kernel
theorem d_Lw_law_613 : decode b_Lw_law 613 = .ok (.iadd, 1) := by decide +kernel
theorem d_Lw_law_614 : decode b_Lw_law 614 = .ok (.iaload, 1) := by decide +kernel
theorem d_Lw_law_615 : decode b_Lw_law 615 = .ok (.invokevirtual 88, 3) := by decide +kernel
theorem d_Lw_law_618 : decode b_Lw_law 618 = .ok (.if_icmp .eq 71, 3) := by decide +kernel
theorem d_Lw_law_621 : decode b_Lw_law 621 = .ok (.iconst 0, 1) := by decide +kernel
theorem d_Lw_law_622 : decode b_Lw_law 622 = .ok (.ireturn, 1) := by decide +kernel
theorem d_Lw_law_623 : decode b_Lw_law 623 = .ok (.aload_n 1, 1) := by decide +kernel
theorem d_Lw_law_624 : decode b_Lw_law 624 = .ok (.aload_n 0, 1) := by decide +kernel
theorem d_Lw_law_625 : decode b_Lw_law 625 = .ok (.iload_n 3, 1) := by decide +kernel
theorem d_Lw_law_626 : decode b_Lw_law 626 = .ok (.iconst 1, 1) := by decide +kernel
theorem d_Lw_law_627 : decode b_Lw_law 627 = .ok (.iadd, 1) := by decide +kernel
theorem d_Lw_law_628 : decode b_Lw_law 628 = .ok (.iaload, 1) := by decide +kernel
theorem d_Lw_law_629 : decode b_Lw_law 629 = .ok (.invokevirtual 89, 3) := by decide +kernel
theorem d_Lw_law_632 : decode b_Lw_law 632 = .ok (.aload_n 2, 1) := by decide +kernel
theorem d_Lw_law_633 : decode b_Lw_law 633 = .ok (.aload_n 0, 1) := by decide +kernel
theorem d_Lw_law_634 : decode b_Lw_law 634 = .ok (.iload_n 3, 1) := by decide +kernel
theorem d_Lw_law_635 : decode b_Lw_law 635 = .ok (.iconst 1, 1) := by decide +kernel
theorem d_Lw_law_636 : decode b_Lw_law 636 = .ok (.iadd, 1) := by decide +kernel
theorem d_Lw_law_637 : decode b_Lw_law 637 = .ok (.iaload, 1) := by decide +kernel
theorem d_Lw_law_638 : decode b_Lw_law 638 = .ok (.invokevirtual 92, 3) := by decide +kernel
theorem d_Lw_law_641 : decode b_Lw_law 641 = .ok (.if_icmp .eq 48, 3) := by decide +kernel
theorem d_Lw_law_644 : decode b_Lw_law 644 = .ok (.iconst 0, 1) := by decide +kernel
theorem d_Lw_law_645 : decode b_Lw_law 645 = .ok (.ireturn, 1) := by decide +kernel
theorem d_Lw_law_646 : decode b_Lw_law 646 = .ok (.aload_n 1, 1) := by decide +kernel
theorem d_Lw_law_647 : decode b_Lw_law 647 = .ok (.aload_n 0, 1) := by decide +kernel
theorem d_Lw_law_648 : decode b_Lw_law 648 = .ok (.iload_n 3, 1) := by decide +kernel
theorem d_Lw_law_649 : decode b_Lw_law 649 = .ok (.iconst 1, 1) := by decide +kernel
theorem d_Lw_law_650 : decode b_Lw_law 650 = .ok (.iadd, 1) := by decide +kernel
theorem d_Lw_law_651 : decode b_Lw_law 651 = .ok (.iaload, 1) := by decide +kernel
theorem d_Lw_law_652 : decode b_Lw_law 652 = .ok (.aload_n 0, 1) := by decide +kernel
theorem d_Lw_law_653 : decode b_Lw_law 653 = .ok (.iload_n 3, 1) := by decide +kernel
theorem d_Lw_law_654 : decode b_Lw_law 654 = .ok (.iconst 2, 1) := by decide +kernel
theorem d_Lw_law_655 : decode b_Lw_law 655 = .ok (.iadd, 1) := by decide +kernel
theorem d_Lw_law_656 : decode b_Lw_law 656 = .ok (.iaload, 1) := by decide +kernel
theorem d_Lw_law_657 : decode b_Lw_law 657 = .ok (.aload_n 0, 1) := by decide +kernel
theorem d_Lw_law_658 : decode b_Lw_law 658 = .ok (.iload_n 3, 1) := by decide +kernel
theorem d_Lw_law_659 : decode b_Lw_law 659 = .ok (.iconst 3, 1) := by decide +kernel
theorem d_Lw_law_660 : decode b_Lw_law 660 = .ok (.iadd, 1) := by decide +kernel
theorem d_Lw_law_661 : decode b_Lw_law 661 = .ok (.iaload, 1) := by decide +kernel
theorem d_Lw_law_662 : decode b_Lw_law 662 = .ok (.invokevirtual 93, 3) := by decide +kernel
theorem d_Lw_law_665 : decode b_Lw_law 665 = .ok (.aload_n 2, 1) := by decide +kernel
theorem d_Lw_law_666 : decode b_Lw_law 666 = .ok (.aload_n 0, 1) := by decide +kernel
theorem d_Lw_law_667 : decode b_Lw_law 667 = .ok (.iload_n 3, 1) := by decide +kernel
theorem d_Lw_law_668 : decode b_Lw_law 668 = .ok (.iconst 1, 1) := by decide +kernel
theorem d_Lw_law_669 : decode b_Lw_law 669 = .ok (.iadd, 1) := by decide +kernel
theorem d_Lw_law_670 : decode b_Lw_law 670 = .ok (.iaload, 1) := by decide +kernel
theorem d_Lw_law_671 : decode b_Lw_law 671 = .ok (.aload_n 0, 1) := by decide +kernel
theorem d_Lw_law_672 : decode b_Lw_law 672 = .ok (.iload_n 3, 1) := by decide +kernel
theorem d_Lw_law_673 : decode b_Lw_law 673 = .ok (.iconst 2, 1) := by decide +kernel
theorem d_Lw_law_674 : decode b_Lw_law 674 = .ok (.iadd, 1) := by decide +kernel
theorem d_Lw_law_675 : decode b_Lw_law 675 = .ok (.iaload, 1) := by decide +kernel
theorem d_Lw_law_676 : decode b_Lw_law 676 = .ok (.aload_n 0, 1) := by decide +kernel
theorem d_Lw_law_677 : decode b_Lw_law 677 = .ok (.iload_n 3, 1) := by decide +kernel
theorem d_Lw_law_678 : decode b_Lw_law 678 = .ok (.iconst 3, 1) := by decide +kernel
theorem d_Lw_law_679 : decode b_Lw_law 679 = .ok (.iadd, 1) := by decide +kernel
theorem d_Lw_law_680 : decode b_Lw_law 680 = .ok (.iaload, 1) := by decide +kernel
theorem d_Lw_law_681 : decode b_Lw_law 681 = .ok (.invokevirtual 97, 3) := by decide +kernel
theorem d_Lw_law_684 : decode b_Lw_law 684 = .ok (.if_icmp .eq 5, 3) := by decide +kernel
theorem d_Lw_law_687 : decode b_Lw_law 687 = .ok (.iconst 0, 1) := by decide +kernel
theorem d_Lw_law_688 : decode b_Lw_law 688 = .ok (.ireturn, 1) := by decide +kernel
theorem d_Lw_law_689 : decode b_Lw_law 689 = .ok (.iinc 3 7, 3) := by decide +kernel
theorem d_Lw_law_692 : decode b_Lw_law 692 = .ok (.goto (-654), 3) := by decide +kernel
theorem d_Lw_law_695 : decode b_Lw_law 695 = .ok (.iconst 1, 1) := by decide +kernel
theorem d_Lw_law_696 : decode b_Lw_law 696 = .ok (.ireturn, 1) := by decide +kernel
