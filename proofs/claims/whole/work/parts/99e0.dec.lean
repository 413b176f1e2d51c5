theorem dl_0 : decode code 0 = .ok (.new 7, 3) := by decide +kernel
theorem dl_3 : decode code 3 = .ok (.dup, 1) := by decide +kernel
theorem dl_4 : decode code 4 = .ok (.invokespecial 9, 3) := by decide +kernel
theorem dl_7 : decode code 7 = .ok (.astore_n 1, 1) := by decide +kernel
theorem dl_8 : decode code 8 = .ok (.new 10, 3) := by decide +kernel
theorem dl_11 : decode code 11 = .ok (.dup, 1) := by decide +kernel
theorem dl_12 : decode code 12 = .ok (.invokespecial 12, 3) := by decide +kernel
theorem dl_15 : decode code 15 = .ok (.astore_n 2, 1) := by decide +kernel
theorem dl_16 : decode code 16 = .ok (.iconst 0, 1) := by decide +kernel
theorem dl_17 : decode code 17 = .ok (.istore_n 3, 1) := by decide +kernel
theorem dl_18 : decode code 18 = .ok (.iload_n 3, 1) := by decide +kernel
theorem dl_19 : decode code 19 = .ok (.aload_n 0, 1) := by decide +kernel
theorem dl_20 : decode code 20 = .ok (.arraylength, 1) := by decide +kernel
theorem dl_21 : decode code 21 = .ok (.iconst 5, 1) := by decide +kernel
theorem dl_22 : decode code 22 = .ok (.isub, 1) := by decide +kernel
theorem dl_23 : decode code 23 = .ok (.if_icmp .gt 966, 3) := by decide +kernel
theorem dl_26 : decode code 26 = .ok (.aload_n 0, 1) := by decide +kernel
theorem dl_27 : decode code 27 = .ok (.iload_n 3, 1) := by decide +kernel
theorem dl_28 : decode code 28 = .ok (.iaload, 1) := by decide +kernel
theorem dl_29 : decode code 29 = .ok (.bipush 31, 2) := by decide +kernel
theorem dl_31 : decode code 31 = .ok (.iand, 1) := by decide +kernel
theorem dl_32 : decode code 32 = .ok (.tableswitch 951 0 28 #[132, 155, 168, 181, 204, 237, 270, 303, 336, 369, 402, 435, 488, 511, 554, 577, 590, 613, 646, 669, 692, 725, 774, 807, 856, 869, 882, 905, 928], 132) := by decide +kernel
theorem dl_164 : decode code 164 = .ok (.aload_n 1, 1) := by decide +kernel
theorem dl_165 : decode code 165 = .ok (.aload_n 0, 1) := by decide +kernel
theorem dl_166 : decode code 166 = .ok (.iload_n 3, 1) := by decide +kernel
theorem dl_167 : decode code 167 = .ok (.iconst 1, 1) := by decide +kernel
theorem dl_168 : decode code 168 = .ok (.iadd, 1) := by decide +kernel
theorem dl_169 : decode code 169 = .ok (.iaload, 1) := by decide +kernel
theorem dl_170 : decode code 170 = .ok (.invokevirtual 13, 3) := by decide +kernel
theorem dl_173 : decode code 173 = .ok (.aload_n 2, 1) := by decide +kernel
theorem dl_174 : decode code 174 = .ok (.aload_n 0, 1) := by decide +kernel
theorem dl_175 : decode code 175 = .ok (.iload_n 3, 1) := by decide +kernel
theorem dl_176 : decode code 176 = .ok (.iconst 1, 1) := by decide +kernel
theorem dl_177 : decode code 177 = .ok (.iadd, 1) := by decide +kernel
theorem dl_178 : decode code 178 = .ok (.iaload, 1) := by decide +kernel
theorem dl_179 : decode code 179 = .ok (.invokevirtual 17, 3) := by decide +kernel
theorem dl_182 : decode code 182 = .ok (.if_icmp .eq 801, 3) := by decide +kernel
theorem dl_185 : decode code 185 = .ok (.iconst 0, 1) := by decide +kernel
theorem dl_186 : decode code 186 = .ok (.ireturn, 1) := by decide +kernel
theorem dl_187 : decode code 187 = .ok (.aload_n 1, 1) := by decide +kernel
theorem dl_188 : decode code 188 = .ok (.invokevirtual 18, 3) := by decide +kernel
theorem dl_191 : decode code 191 = .ok (.aload_n 2, 1) := by decide +kernel
theorem dl_192 : decode code 192 = .ok (.invokevirtual 22, 3) := by decide +kernel
theorem dl_195 : decode code 195 = .ok (.if_icmp .eq 788, 3) := by decide +kernel
theorem dl_198 : decode code 198 = .ok (.iconst 0, 1) := by decide +kernel
theorem dl_199 : decode code 199 = .ok (.ireturn, 1) := by decide +kernel
theorem dl_200 : decode code 200 = .ok (.aload_n 1, 1) := by decide +kernel
theorem dl_201 : decode code 201 = .ok (.invokevirtual 23, 3) := by decide +kernel
theorem dl_204 : decode code 204 = .ok (.aload_n 2, 1) := by decide +kernel
theorem dl_205 : decode code 205 = .ok (.invokevirtual 26, 3) := by decide +kernel
theorem dl_208 : decode code 208 = .ok (.if_icmp .eq 775, 3) := by decide +kernel
theorem dl_211 : decode code 211 = .ok (.iconst 0, 1) := by decide +kernel
theorem dl_212 : decode code 212 = .ok (.ireturn, 1) := by decide +kernel
theorem dl_213 : decode code 213 = .ok (.aload_n 1, 1) := by decide +kernel
theorem dl_214 : decode code 214 = .ok (.aload_n 0, 1) := by decide +kernel
theorem dl_215 : decode code 215 = .ok (.iload_n 3, 1) := by decide +kernel
theorem dl_216 : decode code 216 = .ok (.iconst 1, 1) := by decide +kernel
theorem dl_217 : decode code 217 = .ok (.iadd, 1) := by decide +kernel
theorem dl_218 : decode code 218 = .ok (.iaload, 1) := by decide +kernel
theorem dl_219 : decode code 219 = .ok (.invokevirtual 27, 3) := by decide +kernel
theorem dl_222 : decode code 222 = .ok (.aload_n 2, 1) := by decide +kernel
theorem dl_223 : decode code 223 = .ok (.aload_n 0, 1) := by decide +kernel
theorem dl_224 : decode code 224 = .ok (.iload_n 3, 1) := by decide +kernel
theorem dl_225 : decode code 225 = .ok (.iconst 1, 1) := by decide +kernel
theorem dl_226 : decode code 226 = .ok (.iadd, 1) := by decide +kernel
theorem dl_227 : decode code 227 = .ok (.iaload, 1) := by decide +kernel
theorem dl_228 : decode code 228 = .ok (.invokevirtual 30, 3) := by decide +kernel
theorem dl_231 : decode code 231 = .ok (.if_icmp .eq 752, 3) := by decide +kernel
theorem dl_234 : decode code 234 = .ok (.iconst 0, 1) := by decide +kernel
theorem dl_235 : decode code 235 = .ok (.ireturn, 1) := by decide +kernel
theorem dl_236 : decode code 236 = .ok (.aload_n 1, 1) := by decide +kernel
theorem dl_237 : decode code 237 = .ok (.aload_n 0, 1) := by decide +kernel
theorem dl_238 : decode code 238 = .ok (.iload_n 3, 1) := by decide +kernel
theorem dl_239 : decode code 239 = .ok (.iconst 1, 1) := by decide +kernel
theorem dl_240 : decode code 240 = .ok (.iadd, 1) := by decide +kernel
theorem dl_241 : decode code 241 = .ok (.iaload, 1) := by decide +kernel
theorem dl_242 : decode code 242 = .ok (.aload_n 0, 1) := by decide +kernel
theorem dl_243 : decode code 243 = .ok (.iload_n 3, 1) := by decide +kernel
theorem dl_244 : decode code 244 = .ok (.iconst 2, 1) := by decide +kernel
theorem dl_245 : decode code 245 = .ok (.iadd, 1) := by decide +kernel
theorem dl_246 : decode code 246 = .ok (.iaload, 1) := by decide +kernel
theorem dl_247 : decode code 247 = .ok (.invokevirtual 31, 3) := by decide +kernel
theorem dl_250 : decode code 250 = .ok (.aload_n 2, 1) := by decide +kernel
theorem dl_251 : decode code 251 = .ok (.aload_n 0, 1) := by decide +kernel
theorem dl_252 : decode code 252 = .ok (.iload_n 3, 1) := by decide +kernel
theorem dl_253 : decode code 253 = .ok (.iconst 1, 1) := by decide +kernel
theorem dl_254 : decode code 254 = .ok (.iadd, 1) := by decide +kernel
theorem dl_255 : decode code 255 = .ok (.iaload, 1) := by decide +kernel
theorem dl_256 : decode code 256 = .ok (.aload_n 0, 1) := by decide +kernel
theorem dl_257 : decode code 257 = .ok (.iload_n 3, 1) := by decide +kernel
theorem dl_258 : decode code 258 = .ok (.iconst 2, 1) := by decide +kernel
theorem dl_259 : decode code 259 = .ok (.iadd, 1) := by decide +kernel
theorem dl_260 : decode code 260 = .ok (.iaload, 1) := by decide +kernel
theorem dl_261 : decode code 261 = .ok (.invokevirtual 35, 3) := by decide +kernel
theorem dl_264 : decode code 264 = .ok (.if_icmp .eq 719, 3) := by decide +kernel
theorem dl_267 : decode code 267 = .ok (.iconst 0, 1) := by decide +kernel
theorem dl_268 : decode code 268 = .ok (.ireturn, 1) := by decide +kernel
theorem dl_269 : decode code 269 = .ok (.aload_n 1, 1) := by decide +kernel
theorem dl_270 : decode code 270 = .ok (.aload_n 0, 1) := by decide +kernel
theorem dl_271 : decode code 271 = .ok (.iload_n 3, 1) := by decide +kernel
theorem dl_272 : decode code 272 = .ok (.iconst 1, 1) := by decide +kernel
theorem dl_273 : decode code 273 = .ok (.iadd, 1) := by decide +kernel
theorem dl_274 : decode code 274 = .ok (.iaload, 1) := by decide +kernel
theorem dl_275 : decode code 275 = .ok (.aload_n 0, 1) := by decide +kernel
theorem dl_276 : decode code 276 = .ok (.iload_n 3, 1) := by decide +kernel
theorem dl_277 : decode code 277 = .ok (.iconst 2, 1) := by decide +kernel
theorem dl_278 : decode code 278 = .ok (.iadd, 1) := by decide +kernel
theorem dl_279 : decode code 279 = .ok (.iaload, 1) := by decide +kernel
theorem dl_280 : decode code 280 = .ok (.invokevirtual 36, 3) := by decide +kernel
theorem dl_283 : decode code 283 = .ok (.aload_n 2, 1) := by decide +kernel
