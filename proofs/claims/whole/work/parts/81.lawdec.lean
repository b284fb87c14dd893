/-! the law: its instructions
-/
--@nomend
theorem d_law_0 : decode code 0 = .ok (.new 7, 3) := by decide +kernel
theorem d_law_3 : decode code 3 = .ok (.dup, 1) := by decide +kernel
theorem d_law_4 : decode code 4 = .ok (.invokespecial 9, 3) := by decide +kernel
theorem d_law_7 : decode code 7 = .ok (.astore_n 1, 1) := by decide +kernel
theorem d_law_8 : decode code 8 = .ok (.new 10, 3) := by decide +kernel
theorem d_law_11 : decode code 11 = .ok (.dup, 1) := by decide +kernel
theorem d_law_12 : decode code 12 = .ok (.invokespecial 12, 3) := by decide +kernel
theorem d_law_15 : decode code 15 = .ok (.astore_n 2, 1) := by decide +kernel
theorem d_law_16 : decode code 16 = .ok (.iconst 0, 1) := by decide +kernel
theorem d_law_17 : decode code 17 = .ok (.istore_n 3, 1) := by decide +kernel
theorem d_law_18 : decode code 18 = .ok (.iload_n 3, 1) := by decide +kernel
theorem d_law_19 : decode code 19 = .ok (.aload_n 0, 1) := by decide +kernel
theorem d_law_20 : decode code 20 = .ok (.arraylength, 1) := by decide +kernel
theorem d_law_21 : decode code 21 = .ok (.bipush 6, 2) := by decide +kernel
theorem d_law_23 : decode code 23 = .ok (.isub, 1) := by decide +kernel
theorem d_law_24 : decode code 24 = .ok (.if_icmp .gt 871, 3) := by decide +kernel
theorem d_law_27 : decode code 27 = .ok (.aload_n 0, 1) := by decide +kernel
theorem d_law_28 : decode code 28 = .ok (.iload_n 3, 1) := by decide +kernel
theorem d_law_29 : decode code 29 = .ok (.iaload, 1) := by decide +kernel
theorem d_law_30 : decode code 30 = .ok (.bipush 31, 2) := by decide +kernel
theorem d_law_32 : decode code 32 = .ok (.iand, 1) := by decide +kernel
theorem d_law_33 : decode code 33 = .ok (.tableswitch 856 0 22 #[107, 130, 173, 216, 259, 302, 335, 378, 431, 454, 517, 550, 563, 616, 639, 672, 695, 718, 741, 774, 787, 810, 833], 107) := by decide +kernel
theorem d_law_140 : decode code 140 = .ok (.aload_n 1, 1) := by decide +kernel
theorem d_law_141 : decode code 141 = .ok (.aload_n 0, 1) := by decide +kernel
theorem d_law_142 : decode code 142 = .ok (.iload_n 3, 1) := by decide +kernel
theorem d_law_143 : decode code 143 = .ok (.iconst 1, 1) := by decide +kernel
theorem d_law_144 : decode code 144 = .ok (.iadd, 1) := by decide +kernel
theorem d_law_145 : decode code 145 = .ok (.iaload, 1) := by decide +kernel
theorem d_law_146 : decode code 146 = .ok (.invokevirtual 13, 3) := by decide +kernel
theorem d_law_149 : decode code 149 = .ok (.aload_n 2, 1) := by decide +kernel
theorem d_law_150 : decode code 150 = .ok (.aload_n 0, 1) := by decide +kernel
theorem d_law_151 : decode code 151 = .ok (.iload_n 3, 1) := by decide +kernel
theorem d_law_152 : decode code 152 = .ok (.iconst 1, 1) := by decide +kernel
theorem d_law_153 : decode code 153 = .ok (.iadd, 1) := by decide +kernel
theorem d_law_154 : decode code 154 = .ok (.iaload, 1) := by decide +kernel
theorem d_law_155 : decode code 155 = .ok (.invokevirtual 17, 3) := by decide +kernel
theorem d_law_158 : decode code 158 = .ok (.if_icmp .eq 731, 3) := by decide +kernel
theorem d_law_161 : decode code 161 = .ok (.iconst 0, 1) := by decide +kernel
theorem d_law_162 : decode code 162 = .ok (.ireturn, 1) := by decide +kernel
theorem d_law_163 : decode code 163 = .ok (.aload_n 1, 1) := by decide +kernel
theorem d_law_164 : decode code 164 = .ok (.aload_n 0, 1) := by decide +kernel
theorem d_law_165 : decode code 165 = .ok (.iload_n 3, 1) := by decide +kernel
theorem d_law_166 : decode code 166 = .ok (.iconst 1, 1) := by decide +kernel
theorem d_law_167 : decode code 167 = .ok (.iadd, 1) := by decide +kernel
theorem d_law_168 : decode code 168 = .ok (.iaload, 1) := by decide +kernel
theorem d_law_169 : decode code 169 = .ok (.aload_n 0, 1) := by decide +kernel
theorem d_law_170 : decode code 170 = .ok (.iload_n 3, 1) := by decide +kernel
theorem d_law_171 : decode code 171 = .ok (.iconst 2, 1) := by decide +kernel
theorem d_law_172 : decode code 172 = .ok (.iadd, 1) := by decide +kernel
theorem d_law_173 : decode code 173 = .ok (.iaload, 1) := by decide +kernel
theorem d_law_174 : decode code 174 = .ok (.aload_n 0, 1) := by decide +kernel
theorem d_law_175 : decode code 175 = .ok (.iload_n 3, 1) := by decide +kernel
theorem d_law_176 : decode code 176 = .ok (.iconst 3, 1) := by decide +kernel
theorem d_law_177 : decode code 177 = .ok (.iadd, 1) := by decide +kernel
theorem d_law_178 : decode code 178 = .ok (.iaload, 1) := by decide +kernel
theorem d_law_179 : decode code 179 = .ok (.invokevirtual 18, 3) := by decide +kernel
theorem d_law_182 : decode code 182 = .ok (.aload_n 2, 1) := by decide +kernel
theorem d_law_183 : decode code 183 = .ok (.aload_n 0, 1) := by decide +kernel
theorem d_law_184 : decode code 184 = .ok (.iload_n 3, 1) := by decide +kernel
theorem d_law_185 : decode code 185 = .ok (.iconst 1, 1) := by decide +kernel
theorem d_law_186 : decode code 186 = .ok (.iadd, 1) := by decide +kernel
theorem d_law_187 : decode code 187 = .ok (.iaload, 1) := by decide +kernel
theorem d_law_188 : decode code 188 = .ok (.aload_n 0, 1) := by decide +kernel
theorem d_law_189 : decode code 189 = .ok (.iload_n 3, 1) := by decide +kernel
theorem d_law_190 : decode code 190 = .ok (.iconst 2, 1) := by decide +kernel
theorem d_law_191 : decode code 191 = .ok (.iadd, 1) := by decide +kernel
theorem d_law_192 : decode code 192 = .ok (.iaload, 1) := by decide +kernel
theorem d_law_193 : decode code 193 = .ok (.aload_n 0, 1) := by decide +kernel
theorem d_law_194 : decode code 194 = .ok (.iload_n 3, 1) := by decide +kernel
theorem d_law_195 : decode code 195 = .ok (.iconst 3, 1) := by decide +kernel
theorem d_law_196 : decode code 196 = .ok (.iadd, 1) := by decide +kernel
theorem d_law_197 : decode code 197 = .ok (.iaload, 1) := by decide +kernel
theorem d_law_198 : decode code 198 = .ok (.invokevirtual 22, 3) := by decide +kernel
theorem d_law_201 : decode code 201 = .ok (.if_icmp .eq 688, 3) := by decide +kernel
theorem d_law_204 : decode code 204 = .ok (.iconst 0, 1) := by decide +kernel
theorem d_law_205 : decode code 205 = .ok (.ireturn, 1) := by decide +kernel
theorem d_law_206 : decode code 206 = .ok (.aload_n 1, 1) := by decide +kernel
theorem d_law_207 : decode code 207 = .ok (.aload_n 0, 1) := by decide +kernel
theorem d_law_208 : decode code 208 = .ok (.iload_n 3, 1) := by decide +kernel
theorem d_law_209 : decode code 209 = .ok (.iconst 1, 1) := by decide +kernel
theorem d_law_210 : decode code 210 = .ok (.iadd, 1) := by decide +kernel
theorem d_law_211 : decode code 211 = .ok (.iaload, 1) := by decide +kernel
theorem d_law_212 : decode code 212 = .ok (.aload_n 0, 1) := by decide +kernel
theorem d_law_213 : decode code 213 = .ok (.iload_n 3, 1) := by decide +kernel
theorem d_law_214 : decode code 214 = .ok (.iconst 2, 1) := by decide +kernel
theorem d_law_215 : decode code 215 = .ok (.iadd, 1) := by decide +kernel
theorem d_law_216 : decode code 216 = .ok (.iaload, 1) := by decide +kernel
theorem d_law_217 : decode code 217 = .ok (.aload_n 0, 1) := by decide +kernel
theorem d_law_218 : decode code 218 = .ok (.iload_n 3, 1) := by decide +kernel
theorem d_law_219 : decode code 219 = .ok (.iconst 3, 1) := by decide +kernel
theorem d_law_220 : decode code 220 = .ok (.iadd, 1) := by decide +kernel
theorem d_law_221 : decode code 221 = .ok (.iaload, 1) := by decide +kernel
theorem d_law_222 : decode code 222 = .ok (.invokevirtual 23, 3) := by decide +kernel
theorem d_law_225 : decode code 225 = .ok (.aload_n 2, 1) := by decide +kernel
theorem d_law_226 : decode code 226 = .ok (.aload_n 0, 1) := by decide +kernel
theorem d_law_227 : decode code 227 = .ok (.iload_n 3, 1) := by decide +kernel
theorem d_law_228 : decode code 228 = .ok (.iconst 1, 1) := by decide +kernel
theorem d_law_229 : decode code 229 = .ok (.iadd, 1) := by decide +kernel
theorem d_law_230 : decode code 230 = .ok (.iaload, 1) := by decide +kernel
theorem d_law_231 : decode code 231 = .ok (.aload_n 0, 1) := by decide +kernel
theorem d_law_232 : decode code 232 = .ok (.iload_n 3, 1) := by decide +kernel
theorem d_law_233 : decode code 233 = .ok (.iconst 2, 1) := by decide +kernel
theorem d_law_234 : decode code 234 = .ok (.iadd, 1) := by decide +kernel
theorem d_law_235 : decode code 235 = .ok (.iaload, 1) := by decide +kernel
theorem d_law_236 : decode code 236 = .ok (.aload_n 0, 1) := by decide +kernel
theorem d_law_237 : decode code 237 = .ok (.iload_n 3, 1) := by decide +kernel
theorem d_law_238 : decode code 238 = .ok (.iconst 3, 1) := by decide +kernel
theorem d_law_239 : decode code 239 = .ok (.iadd, 1) := by decide +kernel
theorem d_law_240 : decode code 240 = .ok (.iaload, 1) := by decide +kernel
theorem d_law_241 : decode code 241 = .ok (.invokevirtual 26, 3) := by decide +kernel
theorem d_law_244 : decode code 244 = .ok (.if_icmp .eq 645, 3) := by decide +kernel
theorem d_law_247 : decode code 247 = .ok (.iconst 0, 1) := by decide +kernel
theorem d_law_248 : decode code 248 = .ok (.ireturn, 1) := by decide +kernel
theorem d_law_249 : decode code 249 = .ok (.aload_n 1, 1) := by decide +kernel
theorem d_law_250 : decode code 250 = .ok (.aload_n 0, 1) := by decide +kernel
theorem d_law_251 : decode code 251 = .ok (.iload_n 3, 1) := by decide +kernel
theorem d_law_252 : decode code 252 = .ok (.iconst 1, 1) := by decide +kernel
theorem d_law_253 : decode code 253 = .ok (.iadd, 1) := by decide +kernel
theorem d_law_254 : decode code 254 = .ok (.iaload, 1) := by decide +kernel
theorem d_law_255 : decode code 255 = .ok (.aload_n 0, 1) := by decide +kernel
theorem d_law_256 : decode code 256 = .ok (.iload_n 3, 1) := by decide +kernel
theorem d_law_257 : decode code 257 = .ok (.iconst 2, 1) := by decide +kernel
theorem d_law_258 : decode code 258 = .ok (.iadd, 1) := by decide +kernel
theorem d_law_259 : decode code 259 = .ok (.iaload, 1) := by decide +kernel
theorem d_law_260 : decode code 260 = .ok (.aload_n 0, 1) := by decide +kernel
theorem d_law_261 : decode code 261 = .ok (.iload_n 3, 1) := by decide +kernel
theorem d_law_262 : decode code 262 = .ok (.iconst 3, 1) := by decide +kernel
theorem d_law_263 : decode code 263 = .ok (.iadd, 1) := by decide +kernel
theorem d_law_264 : decode code 264 = .ok (.iaload, 1) := by decide +kernel
theorem d_law_265 : decode code 265 = .ok (.invokevirtual 27, 3) := by decide +kernel
theorem d_law_268 : decode code 268 = .ok (.aload_n 2, 1) := by decide +kernel
theorem d_law_269 : decode code 269 = .ok (.aload_n 0, 1) := by decide +kernel
theorem d_law_270 : decode code 270 = .ok (.iload_n 3, 1) := by decide +kernel
theorem d_law_271 : decode code 271 = .ok (.iconst 1, 1) := by decide +kernel
theorem d_law_272 : decode code 272 = .ok (.iadd, 1) := by decide +kernel
theorem d_law_273 : decode code 273 = .ok (.iaload, 1) := by decide +kernel
theorem d_law_274 : decode code 274 = .ok (.aload_n 0, 1) := by decide +kernel
theorem d_law_275 : decode code 275 = .ok (.iload_n 3, 1) := by decide +kernel
theorem d_law_276 : decode code 276 = .ok (.iconst 2, 1) := by decide +kernel
theorem d_law_277 : decode code 277 = .ok (.iadd, 1) := by decide +kernel
theorem d_law_278 : decode code 278 = .ok (.iaload, 1) := by decide +kernel
theorem d_law_279 : decode code 279 = .ok (.aload_n 0, 1) := by decide +kernel
theorem d_law_280 : decode code 280 = .ok (.iload_n 3, 1) := by decide +kernel
theorem d_law_281 : decode code 281 = .ok (.iconst 3, 1) := by decide +kernel
theorem d_law_282 : decode code 282 = .ok (.iadd, 1) := by decide +kernel
theorem d_law_283 : decode code 283 = .ok (.iaload, 1) := by decide +kernel
theorem d_law_284 : decode code 284 = .ok (.invokevirtual 30, 3) := by decide +kernel
theorem d_law_287 : decode code 287 = .ok (.if_icmp .eq 602, 3) := by decide +kernel
theorem d_law_290 : decode code 290 = .ok (.iconst 0, 1) := by decide +kernel
theorem d_law_291 : decode code 291 = .ok (.ireturn, 1) := by decide +kernel
theorem d_law_292 : decode code 292 = .ok (.aload_n 1, 1) := by decide +kernel
theorem d_law_293 : decode code 293 = .ok (.aload_n 0, 1) := by decide +kernel
theorem d_law_294 : decode code 294 = .ok (.iload_n 3, 1) := by decide +kernel
theorem d_law_295 : decode code 295 = .ok (.iconst 1, 1) := by decide +kernel
theorem d_law_296 : decode code 296 = .ok (.iadd, 1) := by decide +kernel
theorem d_law_297 : decode code 297 = .ok (.iaload, 1) := by decide +kernel
theorem d_law_298 : decode code 298 = .ok (.aload_n 0, 1) := by decide +kernel
theorem d_law_299 : decode code 299 = .ok (.iload_n 3, 1) := by decide +kernel
theorem d_law_300 : decode code 300 = .ok (.iconst 2, 1) := by decide +kernel
theorem d_law_301 : decode code 301 = .ok (.iadd, 1) := by decide +kernel
