theorem dL_law_32 : decode cL_law 32 = .ok (.tableswitch 1427 0 34 #[156, 189, 232, 291, 344, 377, 420, 453, 496, 509, 542, 565, 598, 611, 644, 697, 750, 793, 826, 859, 902, 965, 988, 1011, 1054, 1107, 1130, 1163, 1196, 1219, 1252, 1275, 1308, 1351, 1394], 156) := by decide +kernel
theorem dcL_0 : (decode cL_law 0 = .ok (.new 7, 3)) ∧ (decode cL_law 3 = .ok (.dup, 1)) ∧ (decode cL_law 4 = .ok (.invokespecial 9, 3)) ∧ (decode cL_law 7 = .ok (.astore_n 1, 1)) ∧ (decode cL_law 8 = .ok (.new 10, 3)) ∧ (decode cL_law 11 = .ok (.dup, 1)) ∧ (decode cL_law 12 = .ok (.invokespecial 12, 3)) ∧ (decode cL_law 15 = .ok (.astore_n 2, 1)) := by decide +kernel
theorem dL_law_0 : decode cL_law 0 = .ok (.new 7, 3) := dcL_0.1
theorem dL_law_3 : decode cL_law 3 = .ok (.dup, 1) := dcL_0.2.1
theorem dL_law_4 : decode cL_law 4 = .ok (.invokespecial 9, 3) := dcL_0.2.2.1
theorem dL_law_7 : decode cL_law 7 = .ok (.astore_n 1, 1) := dcL_0.2.2.2.1
theorem dL_law_8 : decode cL_law 8 = .ok (.new 10, 3) := dcL_0.2.2.2.2.1
theorem dL_law_11 : decode cL_law 11 = .ok (.dup, 1) := dcL_0.2.2.2.2.2.1
theorem dL_law_12 : decode cL_law 12 = .ok (.invokespecial 12, 3) := dcL_0.2.2.2.2.2.2.1
theorem dL_law_15 : decode cL_law 15 = .ok (.astore_n 2, 1) := dcL_0.2.2.2.2.2.2.2
theorem dcL_8 : (decode cL_law 16 = .ok (.iconst 0, 1)) ∧ (decode cL_law 17 = .ok (.istore_n 3, 1)) ∧ (decode cL_law 18 = .ok (.iload_n 3, 1)) ∧ (decode cL_law 19 = .ok (.aload_n 0, 1)) ∧ (decode cL_law 20 = .ok (.arraylength, 1)) ∧ (decode cL_law 21 = .ok (.iconst 5, 1)) ∧ (decode cL_law 22 = .ok (.isub, 1)) ∧ (decode cL_law 23 = .ok (.if_icmp .gt 1442, 3)) := by decide +kernel
theorem dL_law_16 : decode cL_law 16 = .ok (.iconst 0, 1) := dcL_8.1
theorem dL_law_17 : decode cL_law 17 = .ok (.istore_n 3, 1) := dcL_8.2.1
theorem dL_law_18 : decode cL_law 18 = .ok (.iload_n 3, 1) := dcL_8.2.2.1
theorem dL_law_19 : decode cL_law 19 = .ok (.aload_n 0, 1) := dcL_8.2.2.2.1
theorem dL_law_20 : decode cL_law 20 = .ok (.arraylength, 1) := dcL_8.2.2.2.2.1
theorem dL_law_21 : decode cL_law 21 = .ok (.iconst 5, 1) := dcL_8.2.2.2.2.2.1
theorem dL_law_22 : decode cL_law 22 = .ok (.isub, 1) := dcL_8.2.2.2.2.2.2.1
theorem dL_law_23 : decode cL_law 23 = .ok (.if_icmp .gt 1442, 3) := dcL_8.2.2.2.2.2.2.2
theorem dcL_16 : (decode cL_law 26 = .ok (.aload_n 0, 1)) ∧ (decode cL_law 27 = .ok (.iload_n 3, 1)) ∧ (decode cL_law 28 = .ok (.iaload, 1)) ∧ (decode cL_law 29 = .ok (.bipush 63, 2)) ∧ (decode cL_law 31 = .ok (.iand, 1)) ∧ (decode cL_law 188 = .ok (.aload_n 1, 1)) ∧ (decode cL_law 189 = .ok (.aload_n 0, 1)) ∧ (decode cL_law 190 = .ok (.iload_n 3, 1)) := by decide +kernel
theorem dL_law_26 : decode cL_law 26 = .ok (.aload_n 0, 1) := dcL_16.1
theorem dL_law_27 : decode cL_law 27 = .ok (.iload_n 3, 1) := dcL_16.2.1
theorem dL_law_28 : decode cL_law 28 = .ok (.iaload, 1) := dcL_16.2.2.1
theorem dL_law_29 : decode cL_law 29 = .ok (.bipush 63, 2) := dcL_16.2.2.2.1
theorem dL_law_31 : decode cL_law 31 = .ok (.iand, 1) := dcL_16.2.2.2.2.1
theorem dL_law_188 : decode cL_law 188 = .ok (.aload_n 1, 1) := dcL_16.2.2.2.2.2.1
theorem dL_law_189 : decode cL_law 189 = .ok (.aload_n 0, 1) := dcL_16.2.2.2.2.2.2.1
theorem dL_law_190 : decode cL_law 190 = .ok (.iload_n 3, 1) := dcL_16.2.2.2.2.2.2.2
theorem dcL_24 : (decode cL_law 191 = .ok (.iconst 1, 1)) ∧ (decode cL_law 192 = .ok (.iadd, 1)) ∧ (decode cL_law 193 = .ok (.iaload, 1)) ∧ (decode cL_law 194 = .ok (.aload_n 0, 1)) ∧ (decode cL_law 195 = .ok (.iload_n 3, 1)) ∧ (decode cL_law 196 = .ok (.iconst 2, 1)) ∧ (decode cL_law 197 = .ok (.iadd, 1)) ∧ (decode cL_law 198 = .ok (.iaload, 1)) := by decide +kernel
theorem dL_law_191 : decode cL_law 191 = .ok (.iconst 1, 1) := dcL_24.1
theorem dL_law_192 : decode cL_law 192 = .ok (.iadd, 1) := dcL_24.2.1
theorem dL_law_193 : decode cL_law 193 = .ok (.iaload, 1) := dcL_24.2.2.1
theorem dL_law_194 : decode cL_law 194 = .ok (.aload_n 0, 1) := dcL_24.2.2.2.1
theorem dL_law_195 : decode cL_law 195 = .ok (.iload_n 3, 1) := dcL_24.2.2.2.2.1
theorem dL_law_196 : decode cL_law 196 = .ok (.iconst 2, 1) := dcL_24.2.2.2.2.2.1
theorem dL_law_197 : decode cL_law 197 = .ok (.iadd, 1) := dcL_24.2.2.2.2.2.2.1
theorem dL_law_198 : decode cL_law 198 = .ok (.iaload, 1) := dcL_24.2.2.2.2.2.2.2
theorem dcL_32 : (decode cL_law 199 = .ok (.invokevirtual 13, 3)) ∧ (decode cL_law 202 = .ok (.pop, 1)) ∧ (decode cL_law 203 = .ok (.aload_n 2, 1)) ∧ (decode cL_law 204 = .ok (.aload_n 0, 1)) ∧ (decode cL_law 205 = .ok (.iload_n 3, 1)) ∧ (decode cL_law 206 = .ok (.iconst 1, 1)) ∧ (decode cL_law 207 = .ok (.iadd, 1)) ∧ (decode cL_law 208 = .ok (.iaload, 1)) := by decide +kernel
theorem dL_law_199 : decode cL_law 199 = .ok (.invokevirtual 13, 3) := dcL_32.1
theorem dL_law_202 : decode cL_law 202 = .ok (.pop, 1) := dcL_32.2.1
theorem dL_law_203 : decode cL_law 203 = .ok (.aload_n 2, 1) := dcL_32.2.2.1
theorem dL_law_204 : decode cL_law 204 = .ok (.aload_n 0, 1) := dcL_32.2.2.2.1
theorem dL_law_205 : decode cL_law 205 = .ok (.iload_n 3, 1) := dcL_32.2.2.2.2.1
theorem dL_law_206 : decode cL_law 206 = .ok (.iconst 1, 1) := dcL_32.2.2.2.2.2.1
theorem dL_law_207 : decode cL_law 207 = .ok (.iadd, 1) := dcL_32.2.2.2.2.2.2.1
theorem dL_law_208 : decode cL_law 208 = .ok (.iaload, 1) := dcL_32.2.2.2.2.2.2.2
theorem dcL_40 : (decode cL_law 209 = .ok (.aload_n 0, 1)) ∧ (decode cL_law 210 = .ok (.iload_n 3, 1)) ∧ (decode cL_law 211 = .ok (.iconst 2, 1)) ∧ (decode cL_law 212 = .ok (.iadd, 1)) ∧ (decode cL_law 213 = .ok (.iaload, 1)) ∧ (decode cL_law 214 = .ok (.invokevirtual 17, 3)) ∧ (decode cL_law 217 = .ok (.pop, 1)) ∧ (decode cL_law 218 = .ok (.goto 1241, 3)) := by decide +kernel
theorem dL_law_209 : decode cL_law 209 = .ok (.aload_n 0, 1) := dcL_40.1
theorem dL_law_210 : decode cL_law 210 = .ok (.iload_n 3, 1) := dcL_40.2.1
theorem dL_law_211 : decode cL_law 211 = .ok (.iconst 2, 1) := dcL_40.2.2.1
theorem dL_law_212 : decode cL_law 212 = .ok (.iadd, 1) := dcL_40.2.2.2.1
theorem dL_law_213 : decode cL_law 213 = .ok (.iaload, 1) := dcL_40.2.2.2.2.1
theorem dL_law_214 : decode cL_law 214 = .ok (.invokevirtual 17, 3) := dcL_40.2.2.2.2.2.1
theorem dL_law_217 : decode cL_law 217 = .ok (.pop, 1) := dcL_40.2.2.2.2.2.2.1
theorem dL_law_218 : decode cL_law 218 = .ok (.goto 1241, 3) := dcL_40.2.2.2.2.2.2.2
theorem dcL_48 : (decode cL_law 221 = .ok (.aload_n 1, 1)) ∧ (decode cL_law 222 = .ok (.aload_n 0, 1)) ∧ (decode cL_law 223 = .ok (.iload_n 3, 1)) ∧ (decode cL_law 224 = .ok (.iconst 1, 1)) ∧ (decode cL_law 225 = .ok (.iadd, 1)) ∧ (decode cL_law 226 = .ok (.iaload, 1)) ∧ (decode cL_law 227 = .ok (.aload_n 0, 1)) ∧ (decode cL_law 228 = .ok (.iload_n 3, 1)) := by decide +kernel
theorem dL_law_221 : decode cL_law 221 = .ok (.aload_n 1, 1) := dcL_48.1
theorem dL_law_222 : decode cL_law 222 = .ok (.aload_n 0, 1) := dcL_48.2.1
theorem dL_law_223 : decode cL_law 223 = .ok (.iload_n 3, 1) := dcL_48.2.2.1
theorem dL_law_224 : decode cL_law 224 = .ok (.iconst 1, 1) := dcL_48.2.2.2.1
theorem dL_law_225 : decode cL_law 225 = .ok (.iadd, 1) := dcL_48.2.2.2.2.1
theorem dL_law_226 : decode cL_law 226 = .ok (.iaload, 1) := dcL_48.2.2.2.2.2.1
theorem dL_law_227 : decode cL_law 227 = .ok (.aload_n 0, 1) := dcL_48.2.2.2.2.2.2.1
theorem dL_law_228 : decode cL_law 228 = .ok (.iload_n 3, 1) := dcL_48.2.2.2.2.2.2.2
theorem dcL_56 : (decode cL_law 229 = .ok (.iconst 2, 1)) ∧ (decode cL_law 230 = .ok (.iadd, 1)) ∧ (decode cL_law 231 = .ok (.iaload, 1)) ∧ (decode cL_law 232 = .ok (.aload_n 0, 1)) ∧ (decode cL_law 233 = .ok (.iload_n 3, 1)) ∧ (decode cL_law 234 = .ok (.iconst 3, 1)) ∧ (decode cL_law 235 = .ok (.iadd, 1)) ∧ (decode cL_law 236 = .ok (.iaload, 1)) := by decide +kernel
theorem dL_law_229 : decode cL_law 229 = .ok (.iconst 2, 1) := dcL_56.1
theorem dL_law_230 : decode cL_law 230 = .ok (.iadd, 1) := dcL_56.2.1
theorem dL_law_231 : decode cL_law 231 = .ok (.iaload, 1) := dcL_56.2.2.1
theorem dL_law_232 : decode cL_law 232 = .ok (.aload_n 0, 1) := dcL_56.2.2.2.1
theorem dL_law_233 : decode cL_law 233 = .ok (.iload_n 3, 1) := dcL_56.2.2.2.2.1
theorem dL_law_234 : decode cL_law 234 = .ok (.iconst 3, 1) := dcL_56.2.2.2.2.2.1
theorem dL_law_235 : decode cL_law 235 = .ok (.iadd, 1) := dcL_56.2.2.2.2.2.2.1
theorem dL_law_236 : decode cL_law 236 = .ok (.iaload, 1) := dcL_56.2.2.2.2.2.2.2
theorem dcL_64 : (decode cL_law 237 = .ok (.invokevirtual 18, 3)) ∧ (decode cL_law 240 = .ok (.pop, 1)) ∧ (decode cL_law 241 = .ok (.aload_n 2, 1)) ∧ (decode cL_law 242 = .ok (.aload_n 0, 1)) ∧ (decode cL_law 243 = .ok (.iload_n 3, 1)) ∧ (decode cL_law 244 = .ok (.iconst 1, 1)) ∧ (decode cL_law 245 = .ok (.iadd, 1)) ∧ (decode cL_law 246 = .ok (.iaload, 1)) := by decide +kernel
theorem dL_law_237 : decode cL_law 237 = .ok (.invokevirtual 18, 3) := dcL_64.1
theorem dL_law_240 : decode cL_law 240 = .ok (.pop, 1) := dcL_64.2.1
theorem dL_law_241 : decode cL_law 241 = .ok (.aload_n 2, 1) := dcL_64.2.2.1
theorem dL_law_242 : decode cL_law 242 = .ok (.aload_n 0, 1) := dcL_64.2.2.2.1
theorem dL_law_243 : decode cL_law 243 = .ok (.iload_n 3, 1) := dcL_64.2.2.2.2.1
theorem dL_law_244 : decode cL_law 244 = .ok (.iconst 1, 1) := dcL_64.2.2.2.2.2.1
theorem dL_law_245 : decode cL_law 245 = .ok (.iadd, 1) := dcL_64.2.2.2.2.2.2.1
theorem dL_law_246 : decode cL_law 246 = .ok (.iaload, 1) := dcL_64.2.2.2.2.2.2.2
theorem dcL_72 : (decode cL_law 247 = .ok (.aload_n 0, 1)) ∧ (decode cL_law 248 = .ok (.iload_n 3, 1)) ∧ (decode cL_law 249 = .ok (.iconst 2, 1)) ∧ (decode cL_law 250 = .ok (.iadd, 1)) ∧ (decode cL_law 251 = .ok (.iaload, 1)) ∧ (decode cL_law 252 = .ok (.aload_n 0, 1)) ∧ (decode cL_law 253 = .ok (.iload_n 3, 1)) ∧ (decode cL_law 254 = .ok (.iconst 3, 1)) := by decide +kernel
theorem dL_law_247 : decode cL_law 247 = .ok (.aload_n 0, 1) := dcL_72.1
theorem dL_law_248 : decode cL_law 248 = .ok (.iload_n 3, 1) := dcL_72.2.1
theorem dL_law_249 : decode cL_law 249 = .ok (.iconst 2, 1) := dcL_72.2.2.1
theorem dL_law_250 : decode cL_law 250 = .ok (.iadd, 1) := dcL_72.2.2.2.1
theorem dL_law_251 : decode cL_law 251 = .ok (.iaload, 1) := dcL_72.2.2.2.2.1
theorem dL_law_252 : decode cL_law 252 = .ok (.aload_n 0, 1) := dcL_72.2.2.2.2.2.1
theorem dL_law_253 : decode cL_law 253 = .ok (.iload_n 3, 1) := dcL_72.2.2.2.2.2.2.1
theorem dL_law_254 : decode cL_law 254 = .ok (.iconst 3, 1) := dcL_72.2.2.2.2.2.2.2
theorem dcL_80 : (decode cL_law 255 = .ok (.iadd, 1)) ∧ (decode cL_law 256 = .ok (.iaload, 1)) ∧ (decode cL_law 257 = .ok (.invokevirtual 22, 3)) ∧ (decode cL_law 260 = .ok (.pop, 1)) ∧ (decode cL_law 261 = .ok (.goto 1198, 3)) ∧ (decode cL_law 264 = .ok (.aload_n 1, 1)) ∧ (decode cL_law 265 = .ok (.aload_n 0, 1)) ∧ (decode cL_law 266 = .ok (.iload_n 3, 1)) := by decide +kernel
theorem dL_law_255 : decode cL_law 255 = .ok (.iadd, 1) := dcL_80.1
theorem dL_law_256 : decode cL_law 256 = .ok (.iaload, 1) := dcL_80.2.1
theorem dL_law_257 : decode cL_law 257 = .ok (.invokevirtual 22, 3) := dcL_80.2.2.1
theorem dL_law_260 : decode cL_law 260 = .ok (.pop, 1) := dcL_80.2.2.2.1
theorem dL_law_261 : decode cL_law 261 = .ok (.goto 1198, 3) := dcL_80.2.2.2.2.1
theorem dL_law_264 : decode cL_law 264 = .ok (.aload_n 1, 1) := dcL_80.2.2.2.2.2.1
theorem dL_law_265 : decode cL_law 265 = .ok (.aload_n 0, 1) := dcL_80.2.2.2.2.2.2.1
theorem dL_law_266 : decode cL_law 266 = .ok (.iload_n 3, 1) := dcL_80.2.2.2.2.2.2.2
theorem dcL_88 : (decode cL_law 267 = .ok (.iconst 1, 1)) ∧ (decode cL_law 268 = .ok (.iadd, 1)) ∧ (decode cL_law 269 = .ok (.iaload, 1)) ∧ (decode cL_law 270 = .ok (.aload_n 0, 1)) ∧ (decode cL_law 271 = .ok (.iload_n 3, 1)) ∧ (decode cL_law 272 = .ok (.iconst 2, 1)) ∧ (decode cL_law 273 = .ok (.iadd, 1)) ∧ (decode cL_law 274 = .ok (.iaload, 1)) := by decide +kernel
theorem dL_law_267 : decode cL_law 267 = .ok (.iconst 1, 1) := dcL_88.1
theorem dL_law_268 : decode cL_law 268 = .ok (.iadd, 1) := dcL_88.2.1
theorem dL_law_269 : decode cL_law 269 = .ok (.iaload, 1) := dcL_88.2.2.1
theorem dL_law_270 : decode cL_law 270 = .ok (.aload_n 0, 1) := dcL_88.2.2.2.1
theorem dL_law_271 : decode cL_law 271 = .ok (.iload_n 3, 1) := dcL_88.2.2.2.2.1
theorem dL_law_272 : decode cL_law 272 = .ok (.iconst 2, 1) := dcL_88.2.2.2.2.2.1
theorem dL_law_273 : decode cL_law 273 = .ok (.iadd, 1) := dcL_88.2.2.2.2.2.2.1
theorem dL_law_274 : decode cL_law 274 = .ok (.iaload, 1) := dcL_88.2.2.2.2.2.2.2
theorem dcL_96 : (decode cL_law 275 = .ok (.aload_n 0, 1)) ∧ (decode cL_law 276 = .ok (.iload_n 3, 1)) ∧ (decode cL_law 277 = .ok (.iconst 3, 1)) ∧ (decode cL_law 278 = .ok (.iadd, 1)) ∧ (decode cL_law 279 = .ok (.iaload, 1)) ∧ (decode cL_law 280 = .ok (.ifCond .eq 7, 3)) ∧ (decode cL_law 283 = .ok (.iconst 1, 1)) ∧ (decode cL_law 284 = .ok (.goto 4, 3)) := by decide +kernel
theorem dL_law_275 : decode cL_law 275 = .ok (.aload_n 0, 1) := dcL_96.1
theorem dL_law_276 : decode cL_law 276 = .ok (.iload_n 3, 1) := dcL_96.2.1
theorem dL_law_277 : decode cL_law 277 = .ok (.iconst 3, 1) := dcL_96.2.2.1
theorem dL_law_278 : decode cL_law 278 = .ok (.iadd, 1) := dcL_96.2.2.2.1
theorem dL_law_279 : decode cL_law 279 = .ok (.iaload, 1) := dcL_96.2.2.2.2.1
theorem dL_law_280 : decode cL_law 280 = .ok (.ifCond .eq 7, 3) := dcL_96.2.2.2.2.2.1
theorem dL_law_283 : decode cL_law 283 = .ok (.iconst 1, 1) := dcL_96.2.2.2.2.2.2.1
theorem dL_law_284 : decode cL_law 284 = .ok (.goto 4, 3) := dcL_96.2.2.2.2.2.2.2
theorem dcL_104 : (decode cL_law 287 = .ok (.iconst 0, 1)) ∧ (decode cL_law 288 = .ok (.invokevirtual 23, 3)) ∧ (decode cL_law 291 = .ok (.pop, 1)) ∧ (decode cL_law 292 = .ok (.aload_n 2, 1)) ∧ (decode cL_law 293 = .ok (.aload_n 0, 1)) ∧ (decode cL_law 294 = .ok (.iload_n 3, 1)) ∧ (decode cL_law 295 = .ok (.iconst 1, 1)) ∧ (decode cL_law 296 = .ok (.iadd, 1)) := by decide +kernel
theorem dL_law_287 : decode cL_law 287 = .ok (.iconst 0, 1) := dcL_104.1
theorem dL_law_288 : decode cL_law 288 = .ok (.invokevirtual 23, 3) := dcL_104.2.1
theorem dL_law_291 : decode cL_law 291 = .ok (.pop, 1) := dcL_104.2.2.1
theorem dL_law_292 : decode cL_law 292 = .ok (.aload_n 2, 1) := dcL_104.2.2.2.1
theorem dL_law_293 : decode cL_law 293 = .ok (.aload_n 0, 1) := dcL_104.2.2.2.2.1
theorem dL_law_294 : decode cL_law 294 = .ok (.iload_n 3, 1) := dcL_104.2.2.2.2.2.1
theorem dL_law_295 : decode cL_law 295 = .ok (.iconst 1, 1) := dcL_104.2.2.2.2.2.2.1
theorem dL_law_296 : decode cL_law 296 = .ok (.iadd, 1) := dcL_104.2.2.2.2.2.2.2
theorem dcL_112 : (decode cL_law 297 = .ok (.iaload, 1)) ∧ (decode cL_law 298 = .ok (.aload_n 0, 1)) ∧ (decode cL_law 299 = .ok (.iload_n 3, 1)) ∧ (decode cL_law 300 = .ok (.iconst 2, 1)) ∧ (decode cL_law 301 = .ok (.iadd, 1)) ∧ (decode cL_law 302 = .ok (.iaload, 1)) ∧ (decode cL_law 303 = .ok (.aload_n 0, 1)) ∧ (decode cL_law 304 = .ok (.iload_n 3, 1)) := by decide +kernel
theorem dL_law_297 : decode cL_law 297 = .ok (.iaload, 1) := dcL_112.1
theorem dL_law_298 : decode cL_law 298 = .ok (.aload_n 0, 1) := dcL_112.2.1
theorem dL_law_299 : decode cL_law 299 = .ok (.iload_n 3, 1) := dcL_112.2.2.1
theorem dL_law_300 : decode cL_law 300 = .ok (.iconst 2, 1) := dcL_112.2.2.2.1
theorem dL_law_301 : decode cL_law 301 = .ok (.iadd, 1) := dcL_112.2.2.2.2.1
theorem dL_law_302 : decode cL_law 302 = .ok (.iaload, 1) := dcL_112.2.2.2.2.2.1
theorem dL_law_303 : decode cL_law 303 = .ok (.aload_n 0, 1) := dcL_112.2.2.2.2.2.2.1
theorem dL_law_304 : decode cL_law 304 = .ok (.iload_n 3, 1) := dcL_112.2.2.2.2.2.2.2
theorem dcL_120 : (decode cL_law 305 = .ok (.iconst 3, 1)) ∧ (decode cL_law 306 = .ok (.iadd, 1)) ∧ (decode cL_law 307 = .ok (.iaload, 1)) ∧ (decode cL_law 308 = .ok (.ifCond .eq 7, 3)) ∧ (decode cL_law 311 = .ok (.iconst 1, 1)) ∧ (decode cL_law 312 = .ok (.goto 4, 3)) ∧ (decode cL_law 315 = .ok (.iconst 0, 1)) ∧ (decode cL_law 316 = .ok (.invokevirtual 27, 3)) := by decide +kernel
theorem dL_law_305 : decode cL_law 305 = .ok (.iconst 3, 1) := dcL_120.1
theorem dL_law_306 : decode cL_law 306 = .ok (.iadd, 1) := dcL_120.2.1
theorem dL_law_307 : decode cL_law 307 = .ok (.iaload, 1) := dcL_120.2.2.1
theorem dL_law_308 : decode cL_law 308 = .ok (.ifCond .eq 7, 3) := dcL_120.2.2.2.1
theorem dL_law_311 : decode cL_law 311 = .ok (.iconst 1, 1) := dcL_120.2.2.2.2.1
theorem dL_law_312 : decode cL_law 312 = .ok (.goto 4, 3) := dcL_120.2.2.2.2.2.1
theorem dL_law_315 : decode cL_law 315 = .ok (.iconst 0, 1) := dcL_120.2.2.2.2.2.2.1
theorem dL_law_316 : decode cL_law 316 = .ok (.invokevirtual 27, 3) := dcL_120.2.2.2.2.2.2.2
theorem dcL_128 : (decode cL_law 319 = .ok (.pop, 1)) ∧ (decode cL_law 320 = .ok (.goto 1139, 3)) ∧ (decode cL_law 323 = .ok (.aload_n 1, 1)) ∧ (decode cL_law 324 = .ok (.aload_n 0, 1)) ∧ (decode cL_law 325 = .ok (.iload_n 3, 1)) ∧ (decode cL_law 326 = .ok (.iconst 1, 1)) ∧ (decode cL_law 327 = .ok (.iadd, 1)) ∧ (decode cL_law 328 = .ok (.iaload, 1)) := by decide +kernel
theorem dL_law_319 : decode cL_law 319 = .ok (.pop, 1) := dcL_128.1
theorem dL_law_320 : decode cL_law 320 = .ok (.goto 1139, 3) := dcL_128.2.1
theorem dL_law_323 : decode cL_law 323 = .ok (.aload_n 1, 1) := dcL_128.2.2.1
theorem dL_law_324 : decode cL_law 324 = .ok (.aload_n 0, 1) := dcL_128.2.2.2.1
theorem dL_law_325 : decode cL_law 325 = .ok (.iload_n 3, 1) := dcL_128.2.2.2.2.1
theorem dL_law_326 : decode cL_law 326 = .ok (.iconst 1, 1) := dcL_128.2.2.2.2.2.1
theorem dL_law_327 : decode cL_law 327 = .ok (.iadd, 1) := dcL_128.2.2.2.2.2.2.1
theorem dL_law_328 : decode cL_law 328 = .ok (.iaload, 1) := dcL_128.2.2.2.2.2.2.2
theorem dcL_136 : (decode cL_law 329 = .ok (.aload_n 0, 1)) ∧ (decode cL_law 330 = .ok (.iload_n 3, 1)) ∧ (decode cL_law 331 = .ok (.iconst 2, 1)) ∧ (decode cL_law 332 = .ok (.iadd, 1)) ∧ (decode cL_law 333 = .ok (.iaload, 1)) ∧ (decode cL_law 334 = .ok (.aload_n 0, 1)) ∧ (decode cL_law 335 = .ok (.iload_n 3, 1)) ∧ (decode cL_law 336 = .ok (.iconst 3, 1)) := by decide +kernel
theorem dL_law_329 : decode cL_law 329 = .ok (.aload_n 0, 1) := dcL_136.1
theorem dL_law_330 : decode cL_law 330 = .ok (.iload_n 3, 1) := dcL_136.2.1
theorem dL_law_331 : decode cL_law 331 = .ok (.iconst 2, 1) := dcL_136.2.2.1
theorem dL_law_332 : decode cL_law 332 = .ok (.iadd, 1) := dcL_136.2.2.2.1
theorem dL_law_333 : decode cL_law 333 = .ok (.iaload, 1) := dcL_136.2.2.2.2.1
theorem dL_law_334 : decode cL_law 334 = .ok (.aload_n 0, 1) := dcL_136.2.2.2.2.2.1
theorem dL_law_335 : decode cL_law 335 = .ok (.iload_n 3, 1) := dcL_136.2.2.2.2.2.2.1
theorem dL_law_336 : decode cL_law 336 = .ok (.iconst 3, 1) := dcL_136.2.2.2.2.2.2.2
theorem dcL_144 : (decode cL_law 337 = .ok (.iadd, 1)) ∧ (decode cL_law 338 = .ok (.iaload, 1)) ∧ (decode cL_law 339 = .ok (.aload_n 0, 1)) ∧ (decode cL_law 340 = .ok (.iload_n 3, 1)) ∧ (decode cL_law 341 = .ok (.iconst 4, 1)) ∧ (decode cL_law 342 = .ok (.iadd, 1)) ∧ (decode cL_law 343 = .ok (.iaload, 1)) ∧ (decode cL_law 344 = .ok (.invokevirtual 28, 3)) := by decide +kernel
theorem dL_law_337 : decode cL_law 337 = .ok (.iadd, 1) := dcL_144.1
theorem dL_law_338 : decode cL_law 338 = .ok (.iaload, 1) := dcL_144.2.1
theorem dL_law_339 : decode cL_law 339 = .ok (.aload_n 0, 1) := dcL_144.2.2.1
theorem dL_law_340 : decode cL_law 340 = .ok (.iload_n 3, 1) := dcL_144.2.2.2.1
theorem dL_law_341 : decode cL_law 341 = .ok (.iconst 4, 1) := dcL_144.2.2.2.2.1
theorem dL_law_342 : decode cL_law 342 = .ok (.iadd, 1) := dcL_144.2.2.2.2.2.1
theorem dL_law_343 : decode cL_law 343 = .ok (.iaload, 1) := dcL_144.2.2.2.2.2.2.1
theorem dL_law_344 : decode cL_law 344 = .ok (.invokevirtual 28, 3) := dcL_144.2.2.2.2.2.2.2
theorem dcL_152 : (decode cL_law 347 = .ok (.pop, 1)) ∧ (decode cL_law 348 = .ok (.aload_n 2, 1)) ∧ (decode cL_law 349 = .ok (.aload_n 0, 1)) ∧ (decode cL_law 350 = .ok (.iload_n 3, 1)) ∧ (decode cL_law 351 = .ok (.iconst 1, 1)) ∧ (decode cL_law 352 = .ok (.iadd, 1)) ∧ (decode cL_law 353 = .ok (.iaload, 1)) ∧ (decode cL_law 354 = .ok (.aload_n 0, 1)) := by decide +kernel
theorem dL_law_347 : decode cL_law 347 = .ok (.pop, 1) := dcL_152.1
theorem dL_law_348 : decode cL_law 348 = .ok (.aload_n 2, 1) := dcL_152.2.1
theorem dL_law_349 : decode cL_law 349 = .ok (.aload_n 0, 1) := dcL_152.2.2.1
theorem dL_law_350 : decode cL_law 350 = .ok (.iload_n 3, 1) := dcL_152.2.2.2.1
theorem dL_law_351 : decode cL_law 351 = .ok (.iconst 1, 1) := dcL_152.2.2.2.2.1
theorem dL_law_352 : decode cL_law 352 = .ok (.iadd, 1) := dcL_152.2.2.2.2.2.1
theorem dL_law_353 : decode cL_law 353 = .ok (.iaload, 1) := dcL_152.2.2.2.2.2.2.1
theorem dL_law_354 : decode cL_law 354 = .ok (.aload_n 0, 1) := dcL_152.2.2.2.2.2.2.2
theorem dcL_160 : (decode cL_law 355 = .ok (.iload_n 3, 1)) ∧ (decode cL_law 356 = .ok (.iconst 2, 1)) ∧ (decode cL_law 357 = .ok (.iadd, 1)) ∧ (decode cL_law 358 = .ok (.iaload, 1)) ∧ (decode cL_law 359 = .ok (.aload_n 0, 1)) ∧ (decode cL_law 360 = .ok (.iload_n 3, 1)) ∧ (decode cL_law 361 = .ok (.iconst 3, 1)) ∧ (decode cL_law 362 = .ok (.iadd, 1)) := by decide +kernel
theorem dL_law_355 : decode cL_law 355 = .ok (.iload_n 3, 1) := dcL_160.1
theorem dL_law_356 : decode cL_law 356 = .ok (.iconst 2, 1) := dcL_160.2.1
theorem dL_law_357 : decode cL_law 357 = .ok (.iadd, 1) := dcL_160.2.2.1
theorem dL_law_358 : decode cL_law 358 = .ok (.iaload, 1) := dcL_160.2.2.2.1
theorem dL_law_359 : decode cL_law 359 = .ok (.aload_n 0, 1) := dcL_160.2.2.2.2.1
theorem dL_law_360 : decode cL_law 360 = .ok (.iload_n 3, 1) := dcL_160.2.2.2.2.2.1
theorem dL_law_361 : decode cL_law 361 = .ok (.iconst 3, 1) := dcL_160.2.2.2.2.2.2.1
theorem dL_law_362 : decode cL_law 362 = .ok (.iadd, 1) := dcL_160.2.2.2.2.2.2.2
theorem dcL_168 : (decode cL_law 363 = .ok (.iaload, 1)) ∧ (decode cL_law 364 = .ok (.aload_n 0, 1)) ∧ (decode cL_law 365 = .ok (.iload_n 3, 1)) ∧ (decode cL_law 366 = .ok (.iconst 4, 1)) ∧ (decode cL_law 367 = .ok (.iadd, 1)) ∧ (decode cL_law 368 = .ok (.iaload, 1)) ∧ (decode cL_law 369 = .ok (.invokevirtual 32, 3)) ∧ (decode cL_law 372 = .ok (.pop, 1)) := by decide +kernel
theorem dL_law_363 : decode cL_law 363 = .ok (.iaload, 1) := dcL_168.1
theorem dL_law_364 : decode cL_law 364 = .ok (.aload_n 0, 1) := dcL_168.2.1
theorem dL_law_365 : decode cL_law 365 = .ok (.iload_n 3, 1) := dcL_168.2.2.1
theorem dL_law_366 : decode cL_law 366 = .ok (.iconst 4, 1) := dcL_168.2.2.2.1
theorem dL_law_367 : decode cL_law 367 = .ok (.iadd, 1) := dcL_168.2.2.2.2.1
theorem dL_law_368 : decode cL_law 368 = .ok (.iaload, 1) := dcL_168.2.2.2.2.2.1
theorem dL_law_369 : decode cL_law 369 = .ok (.invokevirtual 32, 3) := dcL_168.2.2.2.2.2.2.1
theorem dL_law_372 : decode cL_law 372 = .ok (.pop, 1) := dcL_168.2.2.2.2.2.2.2
theorem dcL_176 : (decode cL_law 373 = .ok (.goto 1086, 3)) ∧ (decode cL_law 376 = .ok (.aload_n 1, 1)) ∧ (decode cL_law 377 = .ok (.aload_n 0, 1)) ∧ (decode cL_law 378 = .ok (.iload_n 3, 1)) ∧ (decode cL_law 379 = .ok (.iconst 1, 1)) ∧ (decode cL_law 380 = .ok (.iadd, 1)) ∧ (decode cL_law 381 = .ok (.iaload, 1)) ∧ (decode cL_law 382 = .ok (.aload_n 0, 1)) := by decide +kernel
theorem dL_law_373 : decode cL_law 373 = .ok (.goto 1086, 3) := dcL_176.1
theorem dL_law_376 : decode cL_law 376 = .ok (.aload_n 1, 1) := dcL_176.2.1
theorem dL_law_377 : decode cL_law 377 = .ok (.aload_n 0, 1) := dcL_176.2.2.1
theorem dL_law_378 : decode cL_law 378 = .ok (.iload_n 3, 1) := dcL_176.2.2.2.1
theorem dL_law_379 : decode cL_law 379 = .ok (.iconst 1, 1) := dcL_176.2.2.2.2.1
theorem dL_law_380 : decode cL_law 380 = .ok (.iadd, 1) := dcL_176.2.2.2.2.2.1
theorem dL_law_381 : decode cL_law 381 = .ok (.iaload, 1) := dcL_176.2.2.2.2.2.2.1
theorem dL_law_382 : decode cL_law 382 = .ok (.aload_n 0, 1) := dcL_176.2.2.2.2.2.2.2
theorem dcL_184 : (decode cL_law 383 = .ok (.iload_n 3, 1)) ∧ (decode cL_law 384 = .ok (.iconst 2, 1)) ∧ (decode cL_law 385 = .ok (.iadd, 1)) ∧ (decode cL_law 386 = .ok (.iaload, 1)) ∧ (decode cL_law 387 = .ok (.invokevirtual 33, 3)) ∧ (decode cL_law 390 = .ok (.pop, 1)) ∧ (decode cL_law 391 = .ok (.aload_n 2, 1)) ∧ (decode cL_law 392 = .ok (.aload_n 0, 1)) := by decide +kernel
theorem dL_law_383 : decode cL_law 383 = .ok (.iload_n 3, 1) := dcL_184.1
theorem dL_law_384 : decode cL_law 384 = .ok (.iconst 2, 1) := dcL_184.2.1
theorem dL_law_385 : decode cL_law 385 = .ok (.iadd, 1) := dcL_184.2.2.1
theorem dL_law_386 : decode cL_law 386 = .ok (.iaload, 1) := dcL_184.2.2.2.1
theorem dL_law_387 : decode cL_law 387 = .ok (.invokevirtual 33, 3) := dcL_184.2.2.2.2.1
theorem dL_law_390 : decode cL_law 390 = .ok (.pop, 1) := dcL_184.2.2.2.2.2.1
theorem dL_law_391 : decode cL_law 391 = .ok (.aload_n 2, 1) := dcL_184.2.2.2.2.2.2.1
theorem dL_law_392 : decode cL_law 392 = .ok (.aload_n 0, 1) := dcL_184.2.2.2.2.2.2.2
theorem dcL_192 : (decode cL_law 393 = .ok (.iload_n 3, 1)) ∧ (decode cL_law 394 = .ok (.iconst 1, 1)) ∧ (decode cL_law 395 = .ok (.iadd, 1)) ∧ (decode cL_law 396 = .ok (.iaload, 1)) ∧ (decode cL_law 397 = .ok (.aload_n 0, 1)) ∧ (decode cL_law 398 = .ok (.iload_n 3, 1)) ∧ (decode cL_law 399 = .ok (.iconst 2, 1)) ∧ (decode cL_law 400 = .ok (.iadd, 1)) := by decide +kernel
theorem dL_law_393 : decode cL_law 393 = .ok (.iload_n 3, 1) := dcL_192.1
theorem dL_law_394 : decode cL_law 394 = .ok (.iconst 1, 1) := dcL_192.2.1
theorem dL_law_395 : decode cL_law 395 = .ok (.iadd, 1) := dcL_192.2.2.1
theorem dL_law_396 : decode cL_law 396 = .ok (.iaload, 1) := dcL_192.2.2.2.1
theorem dL_law_397 : decode cL_law 397 = .ok (.aload_n 0, 1) := dcL_192.2.2.2.2.1
theorem dL_law_398 : decode cL_law 398 = .ok (.iload_n 3, 1) := dcL_192.2.2.2.2.2.1
theorem dL_law_399 : decode cL_law 399 = .ok (.iconst 2, 1) := dcL_192.2.2.2.2.2.2.1
theorem dL_law_400 : decode cL_law 400 = .ok (.iadd, 1) := dcL_192.2.2.2.2.2.2.2
theorem dcL_200 : (decode cL_law 401 = .ok (.iaload, 1)) ∧ (decode cL_law 402 = .ok (.invokevirtual 36, 3)) ∧ (decode cL_law 405 = .ok (.pop, 1)) ∧ (decode cL_law 406 = .ok (.goto 1053, 3)) ∧ (decode cL_law 409 = .ok (.aload_n 1, 1)) ∧ (decode cL_law 410 = .ok (.aload_n 0, 1)) ∧ (decode cL_law 411 = .ok (.iload_n 3, 1)) ∧ (decode cL_law 412 = .ok (.iconst 1, 1)) := by decide +kernel
theorem dL_law_401 : decode cL_law 401 = .ok (.iaload, 1) := dcL_200.1
theorem dL_law_402 : decode cL_law 402 = .ok (.invokevirtual 36, 3) := dcL_200.2.1
theorem dL_law_405 : decode cL_law 405 = .ok (.pop, 1) := dcL_200.2.2.1
theorem dL_law_406 : decode cL_law 406 = .ok (.goto 1053, 3) := dcL_200.2.2.2.1
theorem dL_law_409 : decode cL_law 409 = .ok (.aload_n 1, 1) := dcL_200.2.2.2.2.1
theorem dL_law_410 : decode cL_law 410 = .ok (.aload_n 0, 1) := dcL_200.2.2.2.2.2.1
theorem dL_law_411 : decode cL_law 411 = .ok (.iload_n 3, 1) := dcL_200.2.2.2.2.2.2.1
theorem dL_law_412 : decode cL_law 412 = .ok (.iconst 1, 1) := dcL_200.2.2.2.2.2.2.2
theorem dcL_208 : (decode cL_law 413 = .ok (.iadd, 1)) ∧ (decode cL_law 414 = .ok (.iaload, 1)) ∧ (decode cL_law 415 = .ok (.aload_n 0, 1)) ∧ (decode cL_law 416 = .ok (.iload_n 3, 1)) ∧ (decode cL_law 417 = .ok (.iconst 2, 1)) ∧ (decode cL_law 418 = .ok (.iadd, 1)) ∧ (decode cL_law 419 = .ok (.iaload, 1)) ∧ (decode cL_law 420 = .ok (.aload_n 0, 1)) := by decide +kernel
theorem dL_law_413 : decode cL_law 413 = .ok (.iadd, 1) := dcL_208.1
theorem dL_law_414 : decode cL_law 414 = .ok (.iaload, 1) := dcL_208.2.1
theorem dL_law_415 : decode cL_law 415 = .ok (.aload_n 0, 1) := dcL_208.2.2.1
theorem dL_law_416 : decode cL_law 416 = .ok (.iload_n 3, 1) := dcL_208.2.2.2.1
theorem dL_law_417 : decode cL_law 417 = .ok (.iconst 2, 1) := dcL_208.2.2.2.2.1
theorem dL_law_418 : decode cL_law 418 = .ok (.iadd, 1) := dcL_208.2.2.2.2.2.1
theorem dL_law_419 : decode cL_law 419 = .ok (.iaload, 1) := dcL_208.2.2.2.2.2.2.1
theorem dL_law_420 : decode cL_law 420 = .ok (.aload_n 0, 1) := dcL_208.2.2.2.2.2.2.2
theorem dcL_216 : (decode cL_law 421 = .ok (.iload_n 3, 1)) ∧ (decode cL_law 422 = .ok (.iconst 3, 1)) ∧ (decode cL_law 423 = .ok (.iadd, 1)) ∧ (decode cL_law 424 = .ok (.iaload, 1)) ∧ (decode cL_law 425 = .ok (.invokevirtual 37, 3)) ∧ (decode cL_law 428 = .ok (.pop, 1)) ∧ (decode cL_law 429 = .ok (.aload_n 2, 1)) ∧ (decode cL_law 430 = .ok (.aload_n 0, 1)) := by decide +kernel
theorem dL_law_421 : decode cL_law 421 = .ok (.iload_n 3, 1) := dcL_216.1
theorem dL_law_422 : decode cL_law 422 = .ok (.iconst 3, 1) := dcL_216.2.1
theorem dL_law_423 : decode cL_law 423 = .ok (.iadd, 1) := dcL_216.2.2.1
theorem dL_law_424 : decode cL_law 424 = .ok (.iaload, 1) := dcL_216.2.2.2.1
theorem dL_law_425 : decode cL_law 425 = .ok (.invokevirtual 37, 3) := dcL_216.2.2.2.2.1
theorem dL_law_428 : decode cL_law 428 = .ok (.pop, 1) := dcL_216.2.2.2.2.2.1
theorem dL_law_429 : decode cL_law 429 = .ok (.aload_n 2, 1) := dcL_216.2.2.2.2.2.2.1
theorem dL_law_430 : decode cL_law 430 = .ok (.aload_n 0, 1) := dcL_216.2.2.2.2.2.2.2
theorem dcL_224 : (decode cL_law 431 = .ok (.iload_n 3, 1)) ∧ (decode cL_law 432 = .ok (.iconst 1, 1)) ∧ (decode cL_law 433 = .ok (.iadd, 1)) ∧ (decode cL_law 434 = .ok (.iaload, 1)) ∧ (decode cL_law 435 = .ok (.aload_n 0, 1)) ∧ (decode cL_law 436 = .ok (.iload_n 3, 1)) ∧ (decode cL_law 437 = .ok (.iconst 2, 1)) ∧ (decode cL_law 438 = .ok (.iadd, 1)) := by decide +kernel
theorem dL_law_431 : decode cL_law 431 = .ok (.iload_n 3, 1) := dcL_224.1
theorem dL_law_432 : decode cL_law 432 = .ok (.iconst 1, 1) := dcL_224.2.1
theorem dL_law_433 : decode cL_law 433 = .ok (.iadd, 1) := dcL_224.2.2.1
theorem dL_law_434 : decode cL_law 434 = .ok (.iaload, 1) := dcL_224.2.2.2.1
theorem dL_law_435 : decode cL_law 435 = .ok (.aload_n 0, 1) := dcL_224.2.2.2.2.1
theorem dL_law_436 : decode cL_law 436 = .ok (.iload_n 3, 1) := dcL_224.2.2.2.2.2.1
theorem dL_law_437 : decode cL_law 437 = .ok (.iconst 2, 1) := dcL_224.2.2.2.2.2.2.1
theorem dL_law_438 : decode cL_law 438 = .ok (.iadd, 1) := dcL_224.2.2.2.2.2.2.2
theorem dcL_232 : (decode cL_law 439 = .ok (.iaload, 1)) ∧ (decode cL_law 440 = .ok (.aload_n 0, 1)) ∧ (decode cL_law 441 = .ok (.iload_n 3, 1)) ∧ (decode cL_law 442 = .ok (.iconst 3, 1)) ∧ (decode cL_law 443 = .ok (.iadd, 1)) ∧ (decode cL_law 444 = .ok (.iaload, 1)) ∧ (decode cL_law 445 = .ok (.invokevirtual 40, 3)) ∧ (decode cL_law 448 = .ok (.pop, 1)) := by decide +kernel
theorem dL_law_439 : decode cL_law 439 = .ok (.iaload, 1) := dcL_232.1
theorem dL_law_440 : decode cL_law 440 = .ok (.aload_n 0, 1) := dcL_232.2.1
theorem dL_law_441 : decode cL_law 441 = .ok (.iload_n 3, 1) := dcL_232.2.2.1
theorem dL_law_442 : decode cL_law 442 = .ok (.iconst 3, 1) := dcL_232.2.2.2.1
theorem dL_law_443 : decode cL_law 443 = .ok (.iadd, 1) := dcL_232.2.2.2.2.1
theorem dL_law_444 : decode cL_law 444 = .ok (.iaload, 1) := dcL_232.2.2.2.2.2.1
theorem dL_law_445 : decode cL_law 445 = .ok (.invokevirtual 40, 3) := dcL_232.2.2.2.2.2.2.1
theorem dL_law_448 : decode cL_law 448 = .ok (.pop, 1) := dcL_232.2.2.2.2.2.2.2
theorem dcL_240 : (decode cL_law 449 = .ok (.goto 1010, 3)) ∧ (decode cL_law 452 = .ok (.aload_n 1, 1)) ∧ (decode cL_law 453 = .ok (.aload_n 0, 1)) ∧ (decode cL_law 454 = .ok (.iload_n 3, 1)) ∧ (decode cL_law 455 = .ok (.iconst 1, 1)) ∧ (decode cL_law 456 = .ok (.iadd, 1)) ∧ (decode cL_law 457 = .ok (.iaload, 1)) ∧ (decode cL_law 458 = .ok (.aload_n 0, 1)) := by decide +kernel
theorem dL_law_449 : decode cL_law 449 = .ok (.goto 1010, 3) := dcL_240.1
theorem dL_law_452 : decode cL_law 452 = .ok (.aload_n 1, 1) := dcL_240.2.1
theorem dL_law_453 : decode cL_law 453 = .ok (.aload_n 0, 1) := dcL_240.2.2.1
theorem dL_law_454 : decode cL_law 454 = .ok (.iload_n 3, 1) := dcL_240.2.2.2.1
theorem dL_law_455 : decode cL_law 455 = .ok (.iconst 1, 1) := dcL_240.2.2.2.2.1
theorem dL_law_456 : decode cL_law 456 = .ok (.iadd, 1) := dcL_240.2.2.2.2.2.1
theorem dL_law_457 : decode cL_law 457 = .ok (.iaload, 1) := dcL_240.2.2.2.2.2.2.1
theorem dL_law_458 : decode cL_law 458 = .ok (.aload_n 0, 1) := dcL_240.2.2.2.2.2.2.2
theorem dcL_248 : (decode cL_law 459 = .ok (.iload_n 3, 1)) ∧ (decode cL_law 460 = .ok (.iconst 2, 1)) ∧ (decode cL_law 461 = .ok (.iadd, 1)) ∧ (decode cL_law 462 = .ok (.iaload, 1)) ∧ (decode cL_law 463 = .ok (.invokevirtual 41, 3)) ∧ (decode cL_law 466 = .ok (.pop, 1)) ∧ (decode cL_law 467 = .ok (.aload_n 2, 1)) ∧ (decode cL_law 468 = .ok (.aload_n 0, 1)) := by decide +kernel
theorem dL_law_459 : decode cL_law 459 = .ok (.iload_n 3, 1) := dcL_248.1
theorem dL_law_460 : decode cL_law 460 = .ok (.iconst 2, 1) := dcL_248.2.1
theorem dL_law_461 : decode cL_law 461 = .ok (.iadd, 1) := dcL_248.2.2.1
theorem dL_law_462 : decode cL_law 462 = .ok (.iaload, 1) := dcL_248.2.2.2.1
theorem dL_law_463 : decode cL_law 463 = .ok (.invokevirtual 41, 3) := dcL_248.2.2.2.2.1
theorem dL_law_466 : decode cL_law 466 = .ok (.pop, 1) := dcL_248.2.2.2.2.2.1
theorem dL_law_467 : decode cL_law 467 = .ok (.aload_n 2, 1) := dcL_248.2.2.2.2.2.2.1
theorem dL_law_468 : decode cL_law 468 = .ok (.aload_n 0, 1) := dcL_248.2.2.2.2.2.2.2
theorem dcL_256 : (decode cL_law 469 = .ok (.iload_n 3, 1)) ∧ (decode cL_law 470 = .ok (.iconst 1, 1)) ∧ (decode cL_law 471 = .ok (.iadd, 1)) ∧ (decode cL_law 472 = .ok (.iaload, 1)) ∧ (decode cL_law 473 = .ok (.aload_n 0, 1)) ∧ (decode cL_law 474 = .ok (.iload_n 3, 1)) ∧ (decode cL_law 475 = .ok (.iconst 2, 1)) ∧ (decode cL_law 476 = .ok (.iadd, 1)) := by decide +kernel
theorem dL_law_469 : decode cL_law 469 = .ok (.iload_n 3, 1) := dcL_256.1
theorem dL_law_470 : decode cL_law 470 = .ok (.iconst 1, 1) := dcL_256.2.1
theorem dL_law_471 : decode cL_law 471 = .ok (.iadd, 1) := dcL_256.2.2.1
theorem dL_law_472 : decode cL_law 472 = .ok (.iaload, 1) := dcL_256.2.2.2.1
theorem dL_law_473 : decode cL_law 473 = .ok (.aload_n 0, 1) := dcL_256.2.2.2.2.1
theorem dL_law_474 : decode cL_law 474 = .ok (.iload_n 3, 1) := dcL_256.2.2.2.2.2.1
theorem dL_law_475 : decode cL_law 475 = .ok (.iconst 2, 1) := dcL_256.2.2.2.2.2.2.1
theorem dL_law_476 : decode cL_law 476 = .ok (.iadd, 1) := dcL_256.2.2.2.2.2.2.2
theorem dcL_264 : (decode cL_law 477 = .ok (.iaload, 1)) ∧ (decode cL_law 478 = .ok (.invokevirtual 44, 3)) ∧ (decode cL_law 481 = .ok (.pop, 1)) ∧ (decode cL_law 482 = .ok (.goto 977, 3)) ∧ (decode cL_law 485 = .ok (.aload_n 1, 1)) ∧ (decode cL_law 486 = .ok (.aload_n 0, 1)) ∧ (decode cL_law 487 = .ok (.iload_n 3, 1)) ∧ (decode cL_law 488 = .ok (.iconst 1, 1)) := by decide +kernel
theorem dL_law_477 : decode cL_law 477 = .ok (.iaload, 1) := dcL_264.1
theorem dL_law_478 : decode cL_law 478 = .ok (.invokevirtual 44, 3) := dcL_264.2.1
theorem dL_law_481 : decode cL_law 481 = .ok (.pop, 1) := dcL_264.2.2.1
theorem dL_law_482 : decode cL_law 482 = .ok (.goto 977, 3) := dcL_264.2.2.2.1
theorem dL_law_485 : decode cL_law 485 = .ok (.aload_n 1, 1) := dcL_264.2.2.2.2.1
theorem dL_law_486 : decode cL_law 486 = .ok (.aload_n 0, 1) := dcL_264.2.2.2.2.2.1
theorem dL_law_487 : decode cL_law 487 = .ok (.iload_n 3, 1) := dcL_264.2.2.2.2.2.2.1
theorem dL_law_488 : decode cL_law 488 = .ok (.iconst 1, 1) := dcL_264.2.2.2.2.2.2.2
theorem dcL_272 : (decode cL_law 489 = .ok (.iadd, 1)) ∧ (decode cL_law 490 = .ok (.iaload, 1)) ∧ (decode cL_law 491 = .ok (.aload_n 0, 1)) ∧ (decode cL_law 492 = .ok (.iload_n 3, 1)) ∧ (decode cL_law 493 = .ok (.iconst 2, 1)) ∧ (decode cL_law 494 = .ok (.iadd, 1)) ∧ (decode cL_law 495 = .ok (.iaload, 1)) ∧ (decode cL_law 496 = .ok (.aload_n 0, 1)) := by decide +kernel
theorem dL_law_489 : decode cL_law 489 = .ok (.iadd, 1) := dcL_272.1
theorem dL_law_490 : decode cL_law 490 = .ok (.iaload, 1) := dcL_272.2.1
theorem dL_law_491 : decode cL_law 491 = .ok (.aload_n 0, 1) := dcL_272.2.2.1
theorem dL_law_492 : decode cL_law 492 = .ok (.iload_n 3, 1) := dcL_272.2.2.2.1
theorem dL_law_493 : decode cL_law 493 = .ok (.iconst 2, 1) := dcL_272.2.2.2.2.1
theorem dL_law_494 : decode cL_law 494 = .ok (.iadd, 1) := dcL_272.2.2.2.2.2.1
theorem dL_law_495 : decode cL_law 495 = .ok (.iaload, 1) := dcL_272.2.2.2.2.2.2.1
theorem dL_law_496 : decode cL_law 496 = .ok (.aload_n 0, 1) := dcL_272.2.2.2.2.2.2.2
theorem dcL_280 : (decode cL_law 497 = .ok (.iload_n 3, 1)) ∧ (decode cL_law 498 = .ok (.iconst 3, 1)) ∧ (decode cL_law 499 = .ok (.iadd, 1)) ∧ (decode cL_law 500 = .ok (.iaload, 1)) ∧ (decode cL_law 501 = .ok (.invokevirtual 45, 3)) ∧ (decode cL_law 504 = .ok (.pop, 1)) ∧ (decode cL_law 505 = .ok (.aload_n 2, 1)) ∧ (decode cL_law 506 = .ok (.aload_n 0, 1)) := by decide +kernel
theorem dL_law_497 : decode cL_law 497 = .ok (.iload_n 3, 1) := dcL_280.1
theorem dL_law_498 : decode cL_law 498 = .ok (.iconst 3, 1) := dcL_280.2.1
theorem dL_law_499 : decode cL_law 499 = .ok (.iadd, 1) := dcL_280.2.2.1
theorem dL_law_500 : decode cL_law 500 = .ok (.iaload, 1) := dcL_280.2.2.2.1
theorem dL_law_501 : decode cL_law 501 = .ok (.invokevirtual 45, 3) := dcL_280.2.2.2.2.1
theorem dL_law_504 : decode cL_law 504 = .ok (.pop, 1) := dcL_280.2.2.2.2.2.1
theorem dL_law_505 : decode cL_law 505 = .ok (.aload_n 2, 1) := dcL_280.2.2.2.2.2.2.1
theorem dL_law_506 : decode cL_law 506 = .ok (.aload_n 0, 1) := dcL_280.2.2.2.2.2.2.2
theorem dcL_288 : (decode cL_law 507 = .ok (.iload_n 3, 1)) ∧ (decode cL_law 508 = .ok (.iconst 1, 1)) ∧ (decode cL_law 509 = .ok (.iadd, 1)) ∧ (decode cL_law 510 = .ok (.iaload, 1)) ∧ (decode cL_law 511 = .ok (.aload_n 0, 1)) ∧ (decode cL_law 512 = .ok (.iload_n 3, 1)) ∧ (decode cL_law 513 = .ok (.iconst 2, 1)) ∧ (decode cL_law 514 = .ok (.iadd, 1)) := by decide +kernel
theorem dL_law_507 : decode cL_law 507 = .ok (.iload_n 3, 1) := dcL_288.1
theorem dL_law_508 : decode cL_law 508 = .ok (.iconst 1, 1) := dcL_288.2.1
theorem dL_law_509 : decode cL_law 509 = .ok (.iadd, 1) := dcL_288.2.2.1
theorem dL_law_510 : decode cL_law 510 = .ok (.iaload, 1) := dcL_288.2.2.2.1
theorem dL_law_511 : decode cL_law 511 = .ok (.aload_n 0, 1) := dcL_288.2.2.2.2.1
theorem dL_law_512 : decode cL_law 512 = .ok (.iload_n 3, 1) := dcL_288.2.2.2.2.2.1
theorem dL_law_513 : decode cL_law 513 = .ok (.iconst 2, 1) := dcL_288.2.2.2.2.2.2.1
theorem dL_law_514 : decode cL_law 514 = .ok (.iadd, 1) := dcL_288.2.2.2.2.2.2.2
theorem dcL_296 : (decode cL_law 515 = .ok (.iaload, 1)) ∧ (decode cL_law 516 = .ok (.aload_n 0, 1)) ∧ (decode cL_law 517 = .ok (.iload_n 3, 1)) ∧ (decode cL_law 518 = .ok (.iconst 3, 1)) ∧ (decode cL_law 519 = .ok (.iadd, 1)) ∧ (decode cL_law 520 = .ok (.iaload, 1)) ∧ (decode cL_law 521 = .ok (.invokevirtual 48, 3)) ∧ (decode cL_law 524 = .ok (.pop, 1)) := by decide +kernel
theorem dL_law_515 : decode cL_law 515 = .ok (.iaload, 1) := dcL_296.1
theorem dL_law_516 : decode cL_law 516 = .ok (.aload_n 0, 1) := dcL_296.2.1
theorem dL_law_517 : decode cL_law 517 = .ok (.iload_n 3, 1) := dcL_296.2.2.1
theorem dL_law_518 : decode cL_law 518 = .ok (.iconst 3, 1) := dcL_296.2.2.2.1
theorem dL_law_519 : decode cL_law 519 = .ok (.iadd, 1) := dcL_296.2.2.2.2.1
theorem dL_law_520 : decode cL_law 520 = .ok (.iaload, 1) := dcL_296.2.2.2.2.2.1
theorem dL_law_521 : decode cL_law 521 = .ok (.invokevirtual 48, 3) := dcL_296.2.2.2.2.2.2.1
theorem dL_law_524 : decode cL_law 524 = .ok (.pop, 1) := dcL_296.2.2.2.2.2.2.2
theorem dcL_304 : (decode cL_law 525 = .ok (.goto 934, 3)) ∧ (decode cL_law 528 = .ok (.aload_n 1, 1)) ∧ (decode cL_law 529 = .ok (.invokevirtual 49, 3)) ∧ (decode cL_law 532 = .ok (.pop, 1)) ∧ (decode cL_law 533 = .ok (.aload_n 2, 1)) ∧ (decode cL_law 534 = .ok (.invokevirtual 53, 3)) ∧ (decode cL_law 537 = .ok (.pop, 1)) ∧ (decode cL_law 538 = .ok (.goto 921, 3)) := by decide +kernel
theorem dL_law_525 : decode cL_law 525 = .ok (.goto 934, 3) := dcL_304.1
theorem dL_law_528 : decode cL_law 528 = .ok (.aload_n 1, 1) := dcL_304.2.1
theorem dL_law_529 : decode cL_law 529 = .ok (.invokevirtual 49, 3) := dcL_304.2.2.1
theorem dL_law_532 : decode cL_law 532 = .ok (.pop, 1) := dcL_304.2.2.2.1
theorem dL_law_533 : decode cL_law 533 = .ok (.aload_n 2, 1) := dcL_304.2.2.2.2.1
theorem dL_law_534 : decode cL_law 534 = .ok (.invokevirtual 53, 3) := dcL_304.2.2.2.2.2.1
theorem dL_law_537 : decode cL_law 537 = .ok (.pop, 1) := dcL_304.2.2.2.2.2.2.1
theorem dL_law_538 : decode cL_law 538 = .ok (.goto 921, 3) := dcL_304.2.2.2.2.2.2.2
theorem dcL_312 : (decode cL_law 541 = .ok (.aload_n 1, 1)) ∧ (decode cL_law 542 = .ok (.aload_n 0, 1)) ∧ (decode cL_law 543 = .ok (.iload_n 3, 1)) ∧ (decode cL_law 544 = .ok (.iconst 1, 1)) ∧ (decode cL_law 545 = .ok (.iadd, 1)) ∧ (decode cL_law 546 = .ok (.iaload, 1)) ∧ (decode cL_law 547 = .ok (.aload_n 0, 1)) ∧ (decode cL_law 548 = .ok (.iload_n 3, 1)) := by decide +kernel
theorem dL_law_541 : decode cL_law 541 = .ok (.aload_n 1, 1) := dcL_312.1
theorem dL_law_542 : decode cL_law 542 = .ok (.aload_n 0, 1) := dcL_312.2.1
theorem dL_law_543 : decode cL_law 543 = .ok (.iload_n 3, 1) := dcL_312.2.2.1
theorem dL_law_544 : decode cL_law 544 = .ok (.iconst 1, 1) := dcL_312.2.2.2.1
theorem dL_law_545 : decode cL_law 545 = .ok (.iadd, 1) := dcL_312.2.2.2.2.1
theorem dL_law_546 : decode cL_law 546 = .ok (.iaload, 1) := dcL_312.2.2.2.2.2.1
theorem dL_law_547 : decode cL_law 547 = .ok (.aload_n 0, 1) := dcL_312.2.2.2.2.2.2.1
theorem dL_law_548 : decode cL_law 548 = .ok (.iload_n 3, 1) := dcL_312.2.2.2.2.2.2.2
theorem dcL_320 : (decode cL_law 549 = .ok (.iconst 2, 1)) ∧ (decode cL_law 550 = .ok (.iadd, 1)) ∧ (decode cL_law 551 = .ok (.iaload, 1)) ∧ (decode cL_law 552 = .ok (.invokevirtual 54, 3)) ∧ (decode cL_law 555 = .ok (.pop, 1)) ∧ (decode cL_law 556 = .ok (.aload_n 2, 1)) ∧ (decode cL_law 557 = .ok (.aload_n 0, 1)) ∧ (decode cL_law 558 = .ok (.iload_n 3, 1)) := by decide +kernel
theorem dL_law_549 : decode cL_law 549 = .ok (.iconst 2, 1) := dcL_320.1
theorem dL_law_550 : decode cL_law 550 = .ok (.iadd, 1) := dcL_320.2.1
theorem dL_law_551 : decode cL_law 551 = .ok (.iaload, 1) := dcL_320.2.2.1
theorem dL_law_552 : decode cL_law 552 = .ok (.invokevirtual 54, 3) := dcL_320.2.2.2.1
theorem dL_law_555 : decode cL_law 555 = .ok (.pop, 1) := dcL_320.2.2.2.2.1
theorem dL_law_556 : decode cL_law 556 = .ok (.aload_n 2, 1) := dcL_320.2.2.2.2.2.1
theorem dL_law_557 : decode cL_law 557 = .ok (.aload_n 0, 1) := dcL_320.2.2.2.2.2.2.1
theorem dL_law_558 : decode cL_law 558 = .ok (.iload_n 3, 1) := dcL_320.2.2.2.2.2.2.2
theorem dcL_328 : (decode cL_law 559 = .ok (.iconst 1, 1)) ∧ (decode cL_law 560 = .ok (.iadd, 1)) ∧ (decode cL_law 561 = .ok (.iaload, 1)) ∧ (decode cL_law 562 = .ok (.aload_n 0, 1)) ∧ (decode cL_law 563 = .ok (.iload_n 3, 1)) ∧ (decode cL_law 564 = .ok (.iconst 2, 1)) ∧ (decode cL_law 565 = .ok (.iadd, 1)) ∧ (decode cL_law 566 = .ok (.iaload, 1)) := by decide +kernel
theorem dL_law_559 : decode cL_law 559 = .ok (.iconst 1, 1) := dcL_328.1
theorem dL_law_560 : decode cL_law 560 = .ok (.iadd, 1) := dcL_328.2.1
theorem dL_law_561 : decode cL_law 561 = .ok (.iaload, 1) := dcL_328.2.2.1
theorem dL_law_562 : decode cL_law 562 = .ok (.aload_n 0, 1) := dcL_328.2.2.2.1
theorem dL_law_563 : decode cL_law 563 = .ok (.iload_n 3, 1) := dcL_328.2.2.2.2.1
theorem dL_law_564 : decode cL_law 564 = .ok (.iconst 2, 1) := dcL_328.2.2.2.2.2.1
theorem dL_law_565 : decode cL_law 565 = .ok (.iadd, 1) := dcL_328.2.2.2.2.2.2.1
theorem dL_law_566 : decode cL_law 566 = .ok (.iaload, 1) := dcL_328.2.2.2.2.2.2.2
theorem dcL_336 : (decode cL_law 567 = .ok (.invokevirtual 57, 3)) ∧ (decode cL_law 570 = .ok (.pop, 1)) ∧ (decode cL_law 571 = .ok (.goto 888, 3)) ∧ (decode cL_law 574 = .ok (.aload_n 1, 1)) ∧ (decode cL_law 575 = .ok (.aload_n 0, 1)) ∧ (decode cL_law 576 = .ok (.iload_n 3, 1)) ∧ (decode cL_law 577 = .ok (.iconst 1, 1)) ∧ (decode cL_law 578 = .ok (.iadd, 1)) := by decide +kernel
theorem dL_law_567 : decode cL_law 567 = .ok (.invokevirtual 57, 3) := dcL_336.1
theorem dL_law_570 : decode cL_law 570 = .ok (.pop, 1) := dcL_336.2.1
theorem dL_law_571 : decode cL_law 571 = .ok (.goto 888, 3) := dcL_336.2.2.1
theorem dL_law_574 : decode cL_law 574 = .ok (.aload_n 1, 1) := dcL_336.2.2.2.1
theorem dL_law_575 : decode cL_law 575 = .ok (.aload_n 0, 1) := dcL_336.2.2.2.2.1
theorem dL_law_576 : decode cL_law 576 = .ok (.iload_n 3, 1) := dcL_336.2.2.2.2.2.1
theorem dL_law_577 : decode cL_law 577 = .ok (.iconst 1, 1) := dcL_336.2.2.2.2.2.2.1
theorem dL_law_578 : decode cL_law 578 = .ok (.iadd, 1) := dcL_336.2.2.2.2.2.2.2
theorem dcL_344 : (decode cL_law 579 = .ok (.iaload, 1)) ∧ (decode cL_law 580 = .ok (.invokevirtual 58, 3)) ∧ (decode cL_law 583 = .ok (.pop, 1)) ∧ (decode cL_law 584 = .ok (.aload_n 2, 1)) ∧ (decode cL_law 585 = .ok (.aload_n 0, 1)) ∧ (decode cL_law 586 = .ok (.iload_n 3, 1)) ∧ (decode cL_law 587 = .ok (.iconst 1, 1)) ∧ (decode cL_law 588 = .ok (.iadd, 1)) := by decide +kernel
theorem dL_law_579 : decode cL_law 579 = .ok (.iaload, 1) := dcL_344.1
theorem dL_law_580 : decode cL_law 580 = .ok (.invokevirtual 58, 3) := dcL_344.2.1
theorem dL_law_583 : decode cL_law 583 = .ok (.pop, 1) := dcL_344.2.2.1
theorem dL_law_584 : decode cL_law 584 = .ok (.aload_n 2, 1) := dcL_344.2.2.2.1
theorem dL_law_585 : decode cL_law 585 = .ok (.aload_n 0, 1) := dcL_344.2.2.2.2.1
theorem dL_law_586 : decode cL_law 586 = .ok (.iload_n 3, 1) := dcL_344.2.2.2.2.2.1
theorem dL_law_587 : decode cL_law 587 = .ok (.iconst 1, 1) := dcL_344.2.2.2.2.2.2.1
theorem dL_law_588 : decode cL_law 588 = .ok (.iadd, 1) := dcL_344.2.2.2.2.2.2.2
theorem dcL_352 : (decode cL_law 589 = .ok (.iaload, 1)) ∧ (decode cL_law 590 = .ok (.invokevirtual 62, 3)) ∧ (decode cL_law 593 = .ok (.pop, 1)) ∧ (decode cL_law 594 = .ok (.goto 865, 3)) ∧ (decode cL_law 597 = .ok (.aload_n 1, 1)) ∧ (decode cL_law 598 = .ok (.aload_n 0, 1)) ∧ (decode cL_law 599 = .ok (.iload_n 3, 1)) ∧ (decode cL_law 600 = .ok (.iconst 1, 1)) := by decide +kernel
theorem dL_law_589 : decode cL_law 589 = .ok (.iaload, 1) := dcL_352.1
theorem dL_law_590 : decode cL_law 590 = .ok (.invokevirtual 62, 3) := dcL_352.2.1
theorem dL_law_593 : decode cL_law 593 = .ok (.pop, 1) := dcL_352.2.2.1
theorem dL_law_594 : decode cL_law 594 = .ok (.goto 865, 3) := dcL_352.2.2.2.1
theorem dL_law_597 : decode cL_law 597 = .ok (.aload_n 1, 1) := dcL_352.2.2.2.2.1
theorem dL_law_598 : decode cL_law 598 = .ok (.aload_n 0, 1) := dcL_352.2.2.2.2.2.1
theorem dL_law_599 : decode cL_law 599 = .ok (.iload_n 3, 1) := dcL_352.2.2.2.2.2.2.1
theorem dL_law_600 : decode cL_law 600 = .ok (.iconst 1, 1) := dcL_352.2.2.2.2.2.2.2
theorem dcL_360 : (decode cL_law 601 = .ok (.iadd, 1)) ∧ (decode cL_law 602 = .ok (.iaload, 1)) ∧ (decode cL_law 603 = .ok (.aload_n 0, 1)) ∧ (decode cL_law 604 = .ok (.iload_n 3, 1)) ∧ (decode cL_law 605 = .ok (.iconst 2, 1)) ∧ (decode cL_law 606 = .ok (.iadd, 1)) ∧ (decode cL_law 607 = .ok (.iaload, 1)) ∧ (decode cL_law 608 = .ok (.invokevirtual 63, 3)) := by decide +kernel
theorem dL_law_601 : decode cL_law 601 = .ok (.iadd, 1) := dcL_360.1
theorem dL_law_602 : decode cL_law 602 = .ok (.iaload, 1) := dcL_360.2.1
theorem dL_law_603 : decode cL_law 603 = .ok (.aload_n 0, 1) := dcL_360.2.2.1
theorem dL_law_604 : decode cL_law 604 = .ok (.iload_n 3, 1) := dcL_360.2.2.2.1
theorem dL_law_605 : decode cL_law 605 = .ok (.iconst 2, 1) := dcL_360.2.2.2.2.1
theorem dL_law_606 : decode cL_law 606 = .ok (.iadd, 1) := dcL_360.2.2.2.2.2.1
theorem dL_law_607 : decode cL_law 607 = .ok (.iaload, 1) := dcL_360.2.2.2.2.2.2.1
theorem dL_law_608 : decode cL_law 608 = .ok (.invokevirtual 63, 3) := dcL_360.2.2.2.2.2.2.2
theorem dcL_368 : (decode cL_law 611 = .ok (.pop, 1)) ∧ (decode cL_law 612 = .ok (.aload_n 2, 1)) ∧ (decode cL_law 613 = .ok (.aload_n 0, 1)) ∧ (decode cL_law 614 = .ok (.iload_n 3, 1)) ∧ (decode cL_law 615 = .ok (.iconst 1, 1)) ∧ (decode cL_law 616 = .ok (.iadd, 1)) ∧ (decode cL_law 617 = .ok (.iaload, 1)) ∧ (decode cL_law 618 = .ok (.aload_n 0, 1)) := by decide +kernel
theorem dL_law_611 : decode cL_law 611 = .ok (.pop, 1) := dcL_368.1
theorem dL_law_612 : decode cL_law 612 = .ok (.aload_n 2, 1) := dcL_368.2.1
theorem dL_law_613 : decode cL_law 613 = .ok (.aload_n 0, 1) := dcL_368.2.2.1
theorem dL_law_614 : decode cL_law 614 = .ok (.iload_n 3, 1) := dcL_368.2.2.2.1
theorem dL_law_615 : decode cL_law 615 = .ok (.iconst 1, 1) := dcL_368.2.2.2.2.1
theorem dL_law_616 : decode cL_law 616 = .ok (.iadd, 1) := dcL_368.2.2.2.2.2.1
theorem dL_law_617 : decode cL_law 617 = .ok (.iaload, 1) := dcL_368.2.2.2.2.2.2.1
theorem dL_law_618 : decode cL_law 618 = .ok (.aload_n 0, 1) := dcL_368.2.2.2.2.2.2.2
theorem dcL_376 : (decode cL_law 619 = .ok (.iload_n 3, 1)) ∧ (decode cL_law 620 = .ok (.iconst 2, 1)) ∧ (decode cL_law 621 = .ok (.iadd, 1)) ∧ (decode cL_law 622 = .ok (.iaload, 1)) ∧ (decode cL_law 623 = .ok (.invokevirtual 66, 3)) ∧ (decode cL_law 626 = .ok (.pop, 1)) ∧ (decode cL_law 627 = .ok (.goto 832, 3)) ∧ (decode cL_law 630 = .ok (.aload_n 1, 1)) := by decide +kernel
theorem dL_law_619 : decode cL_law 619 = .ok (.iload_n 3, 1) := dcL_376.1
theorem dL_law_620 : decode cL_law 620 = .ok (.iconst 2, 1) := dcL_376.2.1
theorem dL_law_621 : decode cL_law 621 = .ok (.iadd, 1) := dcL_376.2.2.1
theorem dL_law_622 : decode cL_law 622 = .ok (.iaload, 1) := dcL_376.2.2.2.1
theorem dL_law_623 : decode cL_law 623 = .ok (.invokevirtual 66, 3) := dcL_376.2.2.2.2.1
theorem dL_law_626 : decode cL_law 626 = .ok (.pop, 1) := dcL_376.2.2.2.2.2.1
theorem dL_law_627 : decode cL_law 627 = .ok (.goto 832, 3) := dcL_376.2.2.2.2.2.2.1
theorem dL_law_630 : decode cL_law 630 = .ok (.aload_n 1, 1) := dcL_376.2.2.2.2.2.2.2
theorem dcL_384 : (decode cL_law 631 = .ok (.invokevirtual 67, 3)) ∧ (decode cL_law 634 = .ok (.pop, 1)) ∧ (decode cL_law 635 = .ok (.aload_n 2, 1)) ∧ (decode cL_law 636 = .ok (.invokevirtual 70, 3)) ∧ (decode cL_law 639 = .ok (.pop, 1)) ∧ (decode cL_law 640 = .ok (.goto 819, 3)) ∧ (decode cL_law 643 = .ok (.aload_n 1, 1)) ∧ (decode cL_law 644 = .ok (.aload_n 0, 1)) := by decide +kernel
theorem dL_law_631 : decode cL_law 631 = .ok (.invokevirtual 67, 3) := dcL_384.1
theorem dL_law_634 : decode cL_law 634 = .ok (.pop, 1) := dcL_384.2.1
theorem dL_law_635 : decode cL_law 635 = .ok (.aload_n 2, 1) := dcL_384.2.2.1
theorem dL_law_636 : decode cL_law 636 = .ok (.invokevirtual 70, 3) := dcL_384.2.2.2.1
theorem dL_law_639 : decode cL_law 639 = .ok (.pop, 1) := dcL_384.2.2.2.2.1
theorem dL_law_640 : decode cL_law 640 = .ok (.goto 819, 3) := dcL_384.2.2.2.2.2.1
theorem dL_law_643 : decode cL_law 643 = .ok (.aload_n 1, 1) := dcL_384.2.2.2.2.2.2.1
theorem dL_law_644 : decode cL_law 644 = .ok (.aload_n 0, 1) := dcL_384.2.2.2.2.2.2.2
theorem dcL_392 : (decode cL_law 645 = .ok (.iload_n 3, 1)) ∧ (decode cL_law 646 = .ok (.iconst 1, 1)) ∧ (decode cL_law 647 = .ok (.iadd, 1)) ∧ (decode cL_law 648 = .ok (.iaload, 1)) ∧ (decode cL_law 649 = .ok (.aload_n 0, 1)) ∧ (decode cL_law 650 = .ok (.iload_n 3, 1)) ∧ (decode cL_law 651 = .ok (.iconst 2, 1)) ∧ (decode cL_law 652 = .ok (.iadd, 1)) := by decide +kernel
theorem dL_law_645 : decode cL_law 645 = .ok (.iload_n 3, 1) := dcL_392.1
theorem dL_law_646 : decode cL_law 646 = .ok (.iconst 1, 1) := dcL_392.2.1
theorem dL_law_647 : decode cL_law 647 = .ok (.iadd, 1) := dcL_392.2.2.1
theorem dL_law_648 : decode cL_law 648 = .ok (.iaload, 1) := dcL_392.2.2.2.1
theorem dL_law_649 : decode cL_law 649 = .ok (.aload_n 0, 1) := dcL_392.2.2.2.2.1
theorem dL_law_650 : decode cL_law 650 = .ok (.iload_n 3, 1) := dcL_392.2.2.2.2.2.1
theorem dL_law_651 : decode cL_law 651 = .ok (.iconst 2, 1) := dcL_392.2.2.2.2.2.2.1
theorem dL_law_652 : decode cL_law 652 = .ok (.iadd, 1) := dcL_392.2.2.2.2.2.2.2
theorem dcL_400 : (decode cL_law 653 = .ok (.iaload, 1)) ∧ (decode cL_law 654 = .ok (.invokevirtual 71, 3)) ∧ (decode cL_law 657 = .ok (.pop, 1)) ∧ (decode cL_law 658 = .ok (.aload_n 2, 1)) ∧ (decode cL_law 659 = .ok (.aload_n 0, 1)) ∧ (decode cL_law 660 = .ok (.iload_n 3, 1)) ∧ (decode cL_law 661 = .ok (.iconst 1, 1)) ∧ (decode cL_law 662 = .ok (.iadd, 1)) := by decide +kernel
theorem dL_law_653 : decode cL_law 653 = .ok (.iaload, 1) := dcL_400.1
theorem dL_law_654 : decode cL_law 654 = .ok (.invokevirtual 71, 3) := dcL_400.2.1
theorem dL_law_657 : decode cL_law 657 = .ok (.pop, 1) := dcL_400.2.2.1
theorem dL_law_658 : decode cL_law 658 = .ok (.aload_n 2, 1) := dcL_400.2.2.2.1
theorem dL_law_659 : decode cL_law 659 = .ok (.aload_n 0, 1) := dcL_400.2.2.2.2.1
theorem dL_law_660 : decode cL_law 660 = .ok (.iload_n 3, 1) := dcL_400.2.2.2.2.2.1
theorem dL_law_661 : decode cL_law 661 = .ok (.iconst 1, 1) := dcL_400.2.2.2.2.2.2.1
theorem dL_law_662 : decode cL_law 662 = .ok (.iadd, 1) := dcL_400.2.2.2.2.2.2.2
theorem dcL_408 : (decode cL_law 663 = .ok (.iaload, 1)) ∧ (decode cL_law 664 = .ok (.aload_n 0, 1)) ∧ (decode cL_law 665 = .ok (.iload_n 3, 1)) ∧ (decode cL_law 666 = .ok (.iconst 2, 1)) ∧ (decode cL_law 667 = .ok (.iadd, 1)) ∧ (decode cL_law 668 = .ok (.iaload, 1)) ∧ (decode cL_law 669 = .ok (.invokevirtual 74, 3)) ∧ (decode cL_law 672 = .ok (.pop, 1)) := by decide +kernel
theorem dL_law_663 : decode cL_law 663 = .ok (.iaload, 1) := dcL_408.1
theorem dL_law_664 : decode cL_law 664 = .ok (.aload_n 0, 1) := dcL_408.2.1
theorem dL_law_665 : decode cL_law 665 = .ok (.iload_n 3, 1) := dcL_408.2.2.1
theorem dL_law_666 : decode cL_law 666 = .ok (.iconst 2, 1) := dcL_408.2.2.2.1
theorem dL_law_667 : decode cL_law 667 = .ok (.iadd, 1) := dcL_408.2.2.2.2.1
theorem dL_law_668 : decode cL_law 668 = .ok (.iaload, 1) := dcL_408.2.2.2.2.2.1
theorem dL_law_669 : decode cL_law 669 = .ok (.invokevirtual 74, 3) := dcL_408.2.2.2.2.2.2.1
theorem dL_law_672 : decode cL_law 672 = .ok (.pop, 1) := dcL_408.2.2.2.2.2.2.2
theorem dcL_416 : (decode cL_law 673 = .ok (.goto 786, 3)) ∧ (decode cL_law 676 = .ok (.aload_n 1, 1)) ∧ (decode cL_law 677 = .ok (.aload_n 0, 1)) ∧ (decode cL_law 678 = .ok (.iload_n 3, 1)) ∧ (decode cL_law 679 = .ok (.iconst 1, 1)) ∧ (decode cL_law 680 = .ok (.iadd, 1)) ∧ (decode cL_law 681 = .ok (.iaload, 1)) ∧ (decode cL_law 682 = .ok (.aload_n 0, 1)) := by decide +kernel
theorem dL_law_673 : decode cL_law 673 = .ok (.goto 786, 3) := dcL_416.1
theorem dL_law_676 : decode cL_law 676 = .ok (.aload_n 1, 1) := dcL_416.2.1
theorem dL_law_677 : decode cL_law 677 = .ok (.aload_n 0, 1) := dcL_416.2.2.1
theorem dL_law_678 : decode cL_law 678 = .ok (.iload_n 3, 1) := dcL_416.2.2.2.1
theorem dL_law_679 : decode cL_law 679 = .ok (.iconst 1, 1) := dcL_416.2.2.2.2.1
theorem dL_law_680 : decode cL_law 680 = .ok (.iadd, 1) := dcL_416.2.2.2.2.2.1
theorem dL_law_681 : decode cL_law 681 = .ok (.iaload, 1) := dcL_416.2.2.2.2.2.2.1
theorem dL_law_682 : decode cL_law 682 = .ok (.aload_n 0, 1) := dcL_416.2.2.2.2.2.2.2
theorem dcL_424 : (decode cL_law 683 = .ok (.iload_n 3, 1)) ∧ (decode cL_law 684 = .ok (.iconst 2, 1)) ∧ (decode cL_law 685 = .ok (.iadd, 1)) ∧ (decode cL_law 686 = .ok (.iaload, 1)) ∧ (decode cL_law 687 = .ok (.aload_n 0, 1)) ∧ (decode cL_law 688 = .ok (.iload_n 3, 1)) ∧ (decode cL_law 689 = .ok (.iconst 3, 1)) ∧ (decode cL_law 690 = .ok (.iadd, 1)) := by decide +kernel
theorem dL_law_683 : decode cL_law 683 = .ok (.iload_n 3, 1) := dcL_424.1
theorem dL_law_684 : decode cL_law 684 = .ok (.iconst 2, 1) := dcL_424.2.1
theorem dL_law_685 : decode cL_law 685 = .ok (.iadd, 1) := dcL_424.2.2.1
theorem dL_law_686 : decode cL_law 686 = .ok (.iaload, 1) := dcL_424.2.2.2.1
theorem dL_law_687 : decode cL_law 687 = .ok (.aload_n 0, 1) := dcL_424.2.2.2.2.1
theorem dL_law_688 : decode cL_law 688 = .ok (.iload_n 3, 1) := dcL_424.2.2.2.2.2.1
theorem dL_law_689 : decode cL_law 689 = .ok (.iconst 3, 1) := dcL_424.2.2.2.2.2.2.1
theorem dL_law_690 : decode cL_law 690 = .ok (.iadd, 1) := dcL_424.2.2.2.2.2.2.2
theorem dcL_432 : (decode cL_law 691 = .ok (.iaload, 1)) ∧ (decode cL_law 692 = .ok (.aload_n 0, 1)) ∧ (decode cL_law 693 = .ok (.iload_n 3, 1)) ∧ (decode cL_law 694 = .ok (.iconst 4, 1)) ∧ (decode cL_law 695 = .ok (.iadd, 1)) ∧ (decode cL_law 696 = .ok (.iaload, 1)) ∧ (decode cL_law 697 = .ok (.invokevirtual 75, 3)) ∧ (decode cL_law 700 = .ok (.pop, 1)) := by decide +kernel
theorem dL_law_691 : decode cL_law 691 = .ok (.iaload, 1) := dcL_432.1
theorem dL_law_692 : decode cL_law 692 = .ok (.aload_n 0, 1) := dcL_432.2.1
theorem dL_law_693 : decode cL_law 693 = .ok (.iload_n 3, 1) := dcL_432.2.2.1
theorem dL_law_694 : decode cL_law 694 = .ok (.iconst 4, 1) := dcL_432.2.2.2.1
theorem dL_law_695 : decode cL_law 695 = .ok (.iadd, 1) := dcL_432.2.2.2.2.1
theorem dL_law_696 : decode cL_law 696 = .ok (.iaload, 1) := dcL_432.2.2.2.2.2.1
theorem dL_law_697 : decode cL_law 697 = .ok (.invokevirtual 75, 3) := dcL_432.2.2.2.2.2.2.1
theorem dL_law_700 : decode cL_law 700 = .ok (.pop, 1) := dcL_432.2.2.2.2.2.2.2
theorem dcL_440 : (decode cL_law 701 = .ok (.aload_n 2, 1)) ∧ (decode cL_law 702 = .ok (.aload_n 0, 1)) ∧ (decode cL_law 703 = .ok (.iload_n 3, 1)) ∧ (decode cL_law 704 = .ok (.iconst 1, 1)) ∧ (decode cL_law 705 = .ok (.iadd, 1)) ∧ (decode cL_law 706 = .ok (.iaload, 1)) ∧ (decode cL_law 707 = .ok (.aload_n 0, 1)) ∧ (decode cL_law 708 = .ok (.iload_n 3, 1)) := by decide +kernel
theorem dL_law_701 : decode cL_law 701 = .ok (.aload_n 2, 1) := dcL_440.1
theorem dL_law_702 : decode cL_law 702 = .ok (.aload_n 0, 1) := dcL_440.2.1
theorem dL_law_703 : decode cL_law 703 = .ok (.iload_n 3, 1) := dcL_440.2.2.1
theorem dL_law_704 : decode cL_law 704 = .ok (.iconst 1, 1) := dcL_440.2.2.2.1
theorem dL_law_705 : decode cL_law 705 = .ok (.iadd, 1) := dcL_440.2.2.2.2.1
theorem dL_law_706 : decode cL_law 706 = .ok (.iaload, 1) := dcL_440.2.2.2.2.2.1
theorem dL_law_707 : decode cL_law 707 = .ok (.aload_n 0, 1) := dcL_440.2.2.2.2.2.2.1
theorem dL_law_708 : decode cL_law 708 = .ok (.iload_n 3, 1) := dcL_440.2.2.2.2.2.2.2
theorem dcL_448 : (decode cL_law 709 = .ok (.iconst 2, 1)) ∧ (decode cL_law 710 = .ok (.iadd, 1)) ∧ (decode cL_law 711 = .ok (.iaload, 1)) ∧ (decode cL_law 712 = .ok (.aload_n 0, 1)) ∧ (decode cL_law 713 = .ok (.iload_n 3, 1)) ∧ (decode cL_law 714 = .ok (.iconst 3, 1)) ∧ (decode cL_law 715 = .ok (.iadd, 1)) ∧ (decode cL_law 716 = .ok (.iaload, 1)) := by decide +kernel
theorem dL_law_709 : decode cL_law 709 = .ok (.iconst 2, 1) := dcL_448.1
theorem dL_law_710 : decode cL_law 710 = .ok (.iadd, 1) := dcL_448.2.1
theorem dL_law_711 : decode cL_law 711 = .ok (.iaload, 1) := dcL_448.2.2.1
theorem dL_law_712 : decode cL_law 712 = .ok (.aload_n 0, 1) := dcL_448.2.2.2.1
theorem dL_law_713 : decode cL_law 713 = .ok (.iload_n 3, 1) := dcL_448.2.2.2.2.1
theorem dL_law_714 : decode cL_law 714 = .ok (.iconst 3, 1) := dcL_448.2.2.2.2.2.1
theorem dL_law_715 : decode cL_law 715 = .ok (.iadd, 1) := dcL_448.2.2.2.2.2.2.1
theorem dL_law_716 : decode cL_law 716 = .ok (.iaload, 1) := dcL_448.2.2.2.2.2.2.2
theorem dcL_456 : (decode cL_law 717 = .ok (.aload_n 0, 1)) ∧ (decode cL_law 718 = .ok (.iload_n 3, 1)) ∧ (decode cL_law 719 = .ok (.iconst 4, 1)) ∧ (decode cL_law 720 = .ok (.iadd, 1)) ∧ (decode cL_law 721 = .ok (.iaload, 1)) ∧ (decode cL_law 722 = .ok (.invokevirtual 78, 3)) ∧ (decode cL_law 725 = .ok (.pop, 1)) ∧ (decode cL_law 726 = .ok (.goto 733, 3)) := by decide +kernel
theorem dL_law_717 : decode cL_law 717 = .ok (.aload_n 0, 1) := dcL_456.1
theorem dL_law_718 : decode cL_law 718 = .ok (.iload_n 3, 1) := dcL_456.2.1
theorem dL_law_719 : decode cL_law 719 = .ok (.iconst 4, 1) := dcL_456.2.2.1
theorem dL_law_720 : decode cL_law 720 = .ok (.iadd, 1) := dcL_456.2.2.2.1
theorem dL_law_721 : decode cL_law 721 = .ok (.iaload, 1) := dcL_456.2.2.2.2.1
theorem dL_law_722 : decode cL_law 722 = .ok (.invokevirtual 78, 3) := dcL_456.2.2.2.2.2.1
theorem dL_law_725 : decode cL_law 725 = .ok (.pop, 1) := dcL_456.2.2.2.2.2.2.1
theorem dL_law_726 : decode cL_law 726 = .ok (.goto 733, 3) := dcL_456.2.2.2.2.2.2.2
theorem dcL_464 : (decode cL_law 729 = .ok (.aload_n 1, 1)) ∧ (decode cL_law 730 = .ok (.aload_n 0, 1)) ∧ (decode cL_law 731 = .ok (.iload_n 3, 1)) ∧ (decode cL_law 732 = .ok (.iconst 1, 1)) ∧ (decode cL_law 733 = .ok (.iadd, 1)) ∧ (decode cL_law 734 = .ok (.iaload, 1)) ∧ (decode cL_law 735 = .ok (.aload_n 0, 1)) ∧ (decode cL_law 736 = .ok (.iload_n 3, 1)) := by decide +kernel
theorem dL_law_729 : decode cL_law 729 = .ok (.aload_n 1, 1) := dcL_464.1
theorem dL_law_730 : decode cL_law 730 = .ok (.aload_n 0, 1) := dcL_464.2.1
theorem dL_law_731 : decode cL_law 731 = .ok (.iload_n 3, 1) := dcL_464.2.2.1
theorem dL_law_732 : decode cL_law 732 = .ok (.iconst 1, 1) := dcL_464.2.2.2.1
theorem dL_law_733 : decode cL_law 733 = .ok (.iadd, 1) := dcL_464.2.2.2.2.1
theorem dL_law_734 : decode cL_law 734 = .ok (.iaload, 1) := dcL_464.2.2.2.2.2.1
theorem dL_law_735 : decode cL_law 735 = .ok (.aload_n 0, 1) := dcL_464.2.2.2.2.2.2.1
theorem dL_law_736 : decode cL_law 736 = .ok (.iload_n 3, 1) := dcL_464.2.2.2.2.2.2.2
theorem dcL_472 : (decode cL_law 737 = .ok (.iconst 2, 1)) ∧ (decode cL_law 738 = .ok (.iadd, 1)) ∧ (decode cL_law 739 = .ok (.iaload, 1)) ∧ (decode cL_law 740 = .ok (.aload_n 0, 1)) ∧ (decode cL_law 741 = .ok (.iload_n 3, 1)) ∧ (decode cL_law 742 = .ok (.iconst 3, 1)) ∧ (decode cL_law 743 = .ok (.iadd, 1)) ∧ (decode cL_law 744 = .ok (.iaload, 1)) := by decide +kernel
theorem dL_law_737 : decode cL_law 737 = .ok (.iconst 2, 1) := dcL_472.1
theorem dL_law_738 : decode cL_law 738 = .ok (.iadd, 1) := dcL_472.2.1
theorem dL_law_739 : decode cL_law 739 = .ok (.iaload, 1) := dcL_472.2.2.1
theorem dL_law_740 : decode cL_law 740 = .ok (.aload_n 0, 1) := dcL_472.2.2.2.1
theorem dL_law_741 : decode cL_law 741 = .ok (.iload_n 3, 1) := dcL_472.2.2.2.2.1
theorem dL_law_742 : decode cL_law 742 = .ok (.iconst 3, 1) := dcL_472.2.2.2.2.2.1
theorem dL_law_743 : decode cL_law 743 = .ok (.iadd, 1) := dcL_472.2.2.2.2.2.2.1
theorem dL_law_744 : decode cL_law 744 = .ok (.iaload, 1) := dcL_472.2.2.2.2.2.2.2
theorem dcL_480 : (decode cL_law 745 = .ok (.aload_n 0, 1)) ∧ (decode cL_law 746 = .ok (.iload_n 3, 1)) ∧ (decode cL_law 747 = .ok (.iconst 4, 1)) ∧ (decode cL_law 748 = .ok (.iadd, 1)) ∧ (decode cL_law 749 = .ok (.iaload, 1)) ∧ (decode cL_law 750 = .ok (.invokevirtual 79, 3)) ∧ (decode cL_law 753 = .ok (.pop, 1)) ∧ (decode cL_law 754 = .ok (.aload_n 2, 1)) := by decide +kernel
theorem dL_law_745 : decode cL_law 745 = .ok (.aload_n 0, 1) := dcL_480.1
theorem dL_law_746 : decode cL_law 746 = .ok (.iload_n 3, 1) := dcL_480.2.1
theorem dL_law_747 : decode cL_law 747 = .ok (.iconst 4, 1) := dcL_480.2.2.1
theorem dL_law_748 : decode cL_law 748 = .ok (.iadd, 1) := dcL_480.2.2.2.1
theorem dL_law_749 : decode cL_law 749 = .ok (.iaload, 1) := dcL_480.2.2.2.2.1
theorem dL_law_750 : decode cL_law 750 = .ok (.invokevirtual 79, 3) := dcL_480.2.2.2.2.2.1
theorem dL_law_753 : decode cL_law 753 = .ok (.pop, 1) := dcL_480.2.2.2.2.2.2.1
theorem dL_law_754 : decode cL_law 754 = .ok (.aload_n 2, 1) := dcL_480.2.2.2.2.2.2.2
theorem dcL_488 : (decode cL_law 755 = .ok (.aload_n 0, 1)) ∧ (decode cL_law 756 = .ok (.iload_n 3, 1)) ∧ (decode cL_law 757 = .ok (.iconst 1, 1)) ∧ (decode cL_law 758 = .ok (.iadd, 1)) ∧ (decode cL_law 759 = .ok (.iaload, 1)) ∧ (decode cL_law 760 = .ok (.aload_n 0, 1)) ∧ (decode cL_law 761 = .ok (.iload_n 3, 1)) ∧ (decode cL_law 762 = .ok (.iconst 2, 1)) := by decide +kernel
theorem dL_law_755 : decode cL_law 755 = .ok (.aload_n 0, 1) := dcL_488.1
theorem dL_law_756 : decode cL_law 756 = .ok (.iload_n 3, 1) := dcL_488.2.1
theorem dL_law_757 : decode cL_law 757 = .ok (.iconst 1, 1) := dcL_488.2.2.1
theorem dL_law_758 : decode cL_law 758 = .ok (.iadd, 1) := dcL_488.2.2.2.1
theorem dL_law_759 : decode cL_law 759 = .ok (.iaload, 1) := dcL_488.2.2.2.2.1
theorem dL_law_760 : decode cL_law 760 = .ok (.aload_n 0, 1) := dcL_488.2.2.2.2.2.1
theorem dL_law_761 : decode cL_law 761 = .ok (.iload_n 3, 1) := dcL_488.2.2.2.2.2.2.1
theorem dL_law_762 : decode cL_law 762 = .ok (.iconst 2, 1) := dcL_488.2.2.2.2.2.2.2
theorem dcL_496 : (decode cL_law 763 = .ok (.iadd, 1)) ∧ (decode cL_law 764 = .ok (.iaload, 1)) ∧ (decode cL_law 765 = .ok (.aload_n 0, 1)) ∧ (decode cL_law 766 = .ok (.iload_n 3, 1)) ∧ (decode cL_law 767 = .ok (.iconst 3, 1)) ∧ (decode cL_law 768 = .ok (.iadd, 1)) ∧ (decode cL_law 769 = .ok (.iaload, 1)) ∧ (decode cL_law 770 = .ok (.aload_n 0, 1)) := by decide +kernel
theorem dL_law_763 : decode cL_law 763 = .ok (.iadd, 1) := dcL_496.1
theorem dL_law_764 : decode cL_law 764 = .ok (.iaload, 1) := dcL_496.2.1
theorem dL_law_765 : decode cL_law 765 = .ok (.aload_n 0, 1) := dcL_496.2.2.1
theorem dL_law_766 : decode cL_law 766 = .ok (.iload_n 3, 1) := dcL_496.2.2.2.1
theorem dL_law_767 : decode cL_law 767 = .ok (.iconst 3, 1) := dcL_496.2.2.2.2.1
theorem dL_law_768 : decode cL_law 768 = .ok (.iadd, 1) := dcL_496.2.2.2.2.2.1
theorem dL_law_769 : decode cL_law 769 = .ok (.iaload, 1) := dcL_496.2.2.2.2.2.2.1
theorem dL_law_770 : decode cL_law 770 = .ok (.aload_n 0, 1) := dcL_496.2.2.2.2.2.2.2
theorem dcL_504 : (decode cL_law 771 = .ok (.iload_n 3, 1)) ∧ (decode cL_law 772 = .ok (.iconst 4, 1)) ∧ (decode cL_law 773 = .ok (.iadd, 1)) ∧ (decode cL_law 774 = .ok (.iaload, 1)) ∧ (decode cL_law 775 = .ok (.invokevirtual 82, 3)) ∧ (decode cL_law 778 = .ok (.pop, 1)) ∧ (decode cL_law 779 = .ok (.goto 680, 3)) ∧ (decode cL_law 782 = .ok (.aload_n 1, 1)) := by decide +kernel
theorem dL_law_771 : decode cL_law 771 = .ok (.iload_n 3, 1) := dcL_504.1
theorem dL_law_772 : decode cL_law 772 = .ok (.iconst 4, 1) := dcL_504.2.1
theorem dL_law_773 : decode cL_law 773 = .ok (.iadd, 1) := dcL_504.2.2.1
theorem dL_law_774 : decode cL_law 774 = .ok (.iaload, 1) := dcL_504.2.2.2.1
theorem dL_law_775 : decode cL_law 775 = .ok (.invokevirtual 82, 3) := dcL_504.2.2.2.2.1
theorem dL_law_778 : decode cL_law 778 = .ok (.pop, 1) := dcL_504.2.2.2.2.2.1
theorem dL_law_779 : decode cL_law 779 = .ok (.goto 680, 3) := dcL_504.2.2.2.2.2.2.1
theorem dL_law_782 : decode cL_law 782 = .ok (.aload_n 1, 1) := dcL_504.2.2.2.2.2.2.2
theorem dcL_512 : (decode cL_law 783 = .ok (.aload_n 0, 1)) ∧ (decode cL_law 784 = .ok (.iload_n 3, 1)) ∧ (decode cL_law 785 = .ok (.iconst 1, 1)) ∧ (decode cL_law 786 = .ok (.iadd, 1)) ∧ (decode cL_law 787 = .ok (.iaload, 1)) ∧ (decode cL_law 788 = .ok (.aload_n 0, 1)) ∧ (decode cL_law 789 = .ok (.iload_n 3, 1)) ∧ (decode cL_law 790 = .ok (.iconst 2, 1)) := by decide +kernel
theorem dL_law_783 : decode cL_law 783 = .ok (.aload_n 0, 1) := dcL_512.1
theorem dL_law_784 : decode cL_law 784 = .ok (.iload_n 3, 1) := dcL_512.2.1
theorem dL_law_785 : decode cL_law 785 = .ok (.iconst 1, 1) := dcL_512.2.2.1
theorem dL_law_786 : decode cL_law 786 = .ok (.iadd, 1) := dcL_512.2.2.2.1
theorem dL_law_787 : decode cL_law 787 = .ok (.iaload, 1) := dcL_512.2.2.2.2.1
theorem dL_law_788 : decode cL_law 788 = .ok (.aload_n 0, 1) := dcL_512.2.2.2.2.2.1
theorem dL_law_789 : decode cL_law 789 = .ok (.iload_n 3, 1) := dcL_512.2.2.2.2.2.2.1
theorem dL_law_790 : decode cL_law 790 = .ok (.iconst 2, 1) := dcL_512.2.2.2.2.2.2.2
theorem dcL_520 : (decode cL_law 791 = .ok (.iadd, 1)) ∧ (decode cL_law 792 = .ok (.iaload, 1)) ∧ (decode cL_law 793 = .ok (.aload_n 0, 1)) ∧ (decode cL_law 794 = .ok (.iload_n 3, 1)) ∧ (decode cL_law 795 = .ok (.iconst 3, 1)) ∧ (decode cL_law 796 = .ok (.iadd, 1)) ∧ (decode cL_law 797 = .ok (.iaload, 1)) ∧ (decode cL_law 798 = .ok (.invokevirtual 83, 3)) := by decide +kernel
theorem dL_law_791 : decode cL_law 791 = .ok (.iadd, 1) := dcL_520.1
theorem dL_law_792 : decode cL_law 792 = .ok (.iaload, 1) := dcL_520.2.1
theorem dL_law_793 : decode cL_law 793 = .ok (.aload_n 0, 1) := dcL_520.2.2.1
theorem dL_law_794 : decode cL_law 794 = .ok (.iload_n 3, 1) := dcL_520.2.2.2.1
theorem dL_law_795 : decode cL_law 795 = .ok (.iconst 3, 1) := dcL_520.2.2.2.2.1
theorem dL_law_796 : decode cL_law 796 = .ok (.iadd, 1) := dcL_520.2.2.2.2.2.1
theorem dL_law_797 : decode cL_law 797 = .ok (.iaload, 1) := dcL_520.2.2.2.2.2.2.1
theorem dL_law_798 : decode cL_law 798 = .ok (.invokevirtual 83, 3) := dcL_520.2.2.2.2.2.2.2
theorem dcL_528 : (decode cL_law 801 = .ok (.pop, 1)) ∧ (decode cL_law 802 = .ok (.aload_n 2, 1)) ∧ (decode cL_law 803 = .ok (.aload_n 0, 1)) ∧ (decode cL_law 804 = .ok (.iload_n 3, 1)) ∧ (decode cL_law 805 = .ok (.iconst 1, 1)) ∧ (decode cL_law 806 = .ok (.iadd, 1)) ∧ (decode cL_law 807 = .ok (.iaload, 1)) ∧ (decode cL_law 808 = .ok (.aload_n 0, 1)) := by decide +kernel
theorem dL_law_801 : decode cL_law 801 = .ok (.pop, 1) := dcL_528.1
theorem dL_law_802 : decode cL_law 802 = .ok (.aload_n 2, 1) := dcL_528.2.1
theorem dL_law_803 : decode cL_law 803 = .ok (.aload_n 0, 1) := dcL_528.2.2.1
theorem dL_law_804 : decode cL_law 804 = .ok (.iload_n 3, 1) := dcL_528.2.2.2.1
theorem dL_law_805 : decode cL_law 805 = .ok (.iconst 1, 1) := dcL_528.2.2.2.2.1
theorem dL_law_806 : decode cL_law 806 = .ok (.iadd, 1) := dcL_528.2.2.2.2.2.1
theorem dL_law_807 : decode cL_law 807 = .ok (.iaload, 1) := dcL_528.2.2.2.2.2.2.1
theorem dL_law_808 : decode cL_law 808 = .ok (.aload_n 0, 1) := dcL_528.2.2.2.2.2.2.2
theorem dcL_536 : (decode cL_law 809 = .ok (.iload_n 3, 1)) ∧ (decode cL_law 810 = .ok (.iconst 2, 1)) ∧ (decode cL_law 811 = .ok (.iadd, 1)) ∧ (decode cL_law 812 = .ok (.iaload, 1)) ∧ (decode cL_law 813 = .ok (.aload_n 0, 1)) ∧ (decode cL_law 814 = .ok (.iload_n 3, 1)) ∧ (decode cL_law 815 = .ok (.iconst 3, 1)) ∧ (decode cL_law 816 = .ok (.iadd, 1)) := by decide +kernel
theorem dL_law_809 : decode cL_law 809 = .ok (.iload_n 3, 1) := dcL_536.1
theorem dL_law_810 : decode cL_law 810 = .ok (.iconst 2, 1) := dcL_536.2.1
theorem dL_law_811 : decode cL_law 811 = .ok (.iadd, 1) := dcL_536.2.2.1
theorem dL_law_812 : decode cL_law 812 = .ok (.iaload, 1) := dcL_536.2.2.2.1
theorem dL_law_813 : decode cL_law 813 = .ok (.aload_n 0, 1) := dcL_536.2.2.2.2.1
theorem dL_law_814 : decode cL_law 814 = .ok (.iload_n 3, 1) := dcL_536.2.2.2.2.2.1
theorem dL_law_815 : decode cL_law 815 = .ok (.iconst 3, 1) := dcL_536.2.2.2.2.2.2.1
theorem dL_law_816 : decode cL_law 816 = .ok (.iadd, 1) := dcL_536.2.2.2.2.2.2.2
theorem dcL_544 : (decode cL_law 817 = .ok (.iaload, 1)) ∧ (decode cL_law 818 = .ok (.invokevirtual 86, 3)) ∧ (decode cL_law 821 = .ok (.pop, 1)) ∧ (decode cL_law 822 = .ok (.goto 637, 3)) ∧ (decode cL_law 825 = .ok (.aload_n 1, 1)) ∧ (decode cL_law 826 = .ok (.aload_n 0, 1)) ∧ (decode cL_law 827 = .ok (.iload_n 3, 1)) ∧ (decode cL_law 828 = .ok (.iconst 1, 1)) := by decide +kernel
theorem dL_law_817 : decode cL_law 817 = .ok (.iaload, 1) := dcL_544.1
theorem dL_law_818 : decode cL_law 818 = .ok (.invokevirtual 86, 3) := dcL_544.2.1
theorem dL_law_821 : decode cL_law 821 = .ok (.pop, 1) := dcL_544.2.2.1
theorem dL_law_822 : decode cL_law 822 = .ok (.goto 637, 3) := dcL_544.2.2.2.1
theorem dL_law_825 : decode cL_law 825 = .ok (.aload_n 1, 1) := dcL_544.2.2.2.2.1
theorem dL_law_826 : decode cL_law 826 = .ok (.aload_n 0, 1) := dcL_544.2.2.2.2.2.1
theorem dL_law_827 : decode cL_law 827 = .ok (.iload_n 3, 1) := dcL_544.2.2.2.2.2.2.1
theorem dL_law_828 : decode cL_law 828 = .ok (.iconst 1, 1) := dcL_544.2.2.2.2.2.2.2
theorem dcL_552 : (decode cL_law 829 = .ok (.iadd, 1)) ∧ (decode cL_law 830 = .ok (.iaload, 1)) ∧ (decode cL_law 831 = .ok (.aload_n 0, 1)) ∧ (decode cL_law 832 = .ok (.iload_n 3, 1)) ∧ (decode cL_law 833 = .ok (.iconst 2, 1)) ∧ (decode cL_law 834 = .ok (.iadd, 1)) ∧ (decode cL_law 835 = .ok (.iaload, 1)) ∧ (decode cL_law 836 = .ok (.invokevirtual 87, 3)) := by decide +kernel
theorem dL_law_829 : decode cL_law 829 = .ok (.iadd, 1) := dcL_552.1
theorem dL_law_830 : decode cL_law 830 = .ok (.iaload, 1) := dcL_552.2.1
theorem dL_law_831 : decode cL_law 831 = .ok (.aload_n 0, 1) := dcL_552.2.2.1
theorem dL_law_832 : decode cL_law 832 = .ok (.iload_n 3, 1) := dcL_552.2.2.2.1
theorem dL_law_833 : decode cL_law 833 = .ok (.iconst 2, 1) := dcL_552.2.2.2.2.1
theorem dL_law_834 : decode cL_law 834 = .ok (.iadd, 1) := dcL_552.2.2.2.2.2.1
theorem dL_law_835 : decode cL_law 835 = .ok (.iaload, 1) := dcL_552.2.2.2.2.2.2.1
theorem dL_law_836 : decode cL_law 836 = .ok (.invokevirtual 87, 3) := dcL_552.2.2.2.2.2.2.2
theorem dcL_560 : (decode cL_law 839 = .ok (.pop, 1)) ∧ (decode cL_law 840 = .ok (.aload_n 2, 1)) ∧ (decode cL_law 841 = .ok (.aload_n 0, 1)) ∧ (decode cL_law 842 = .ok (.iload_n 3, 1)) ∧ (decode cL_law 843 = .ok (.iconst 1, 1)) ∧ (decode cL_law 844 = .ok (.iadd, 1)) ∧ (decode cL_law 845 = .ok (.iaload, 1)) ∧ (decode cL_law 846 = .ok (.aload_n 0, 1)) := by decide +kernel
theorem dL_law_839 : decode cL_law 839 = .ok (.pop, 1) := dcL_560.1
theorem dL_law_840 : decode cL_law 840 = .ok (.aload_n 2, 1) := dcL_560.2.1
theorem dL_law_841 : decode cL_law 841 = .ok (.aload_n 0, 1) := dcL_560.2.2.1
theorem dL_law_842 : decode cL_law 842 = .ok (.iload_n 3, 1) := dcL_560.2.2.2.1
theorem dL_law_843 : decode cL_law 843 = .ok (.iconst 1, 1) := dcL_560.2.2.2.2.1
theorem dL_law_844 : decode cL_law 844 = .ok (.iadd, 1) := dcL_560.2.2.2.2.2.1
theorem dL_law_845 : decode cL_law 845 = .ok (.iaload, 1) := dcL_560.2.2.2.2.2.2.1
theorem dL_law_846 : decode cL_law 846 = .ok (.aload_n 0, 1) := dcL_560.2.2.2.2.2.2.2
theorem dcL_568 : (decode cL_law 847 = .ok (.iload_n 3, 1)) ∧ (decode cL_law 848 = .ok (.iconst 2, 1)) ∧ (decode cL_law 849 = .ok (.iadd, 1)) ∧ (decode cL_law 850 = .ok (.iaload, 1)) ∧ (decode cL_law 851 = .ok (.invokevirtual 90, 3)) ∧ (decode cL_law 854 = .ok (.pop, 1)) ∧ (decode cL_law 855 = .ok (.goto 604, 3)) ∧ (decode cL_law 858 = .ok (.aload_n 1, 1)) := by decide +kernel
theorem dL_law_847 : decode cL_law 847 = .ok (.iload_n 3, 1) := dcL_568.1
theorem dL_law_848 : decode cL_law 848 = .ok (.iconst 2, 1) := dcL_568.2.1
theorem dL_law_849 : decode cL_law 849 = .ok (.iadd, 1) := dcL_568.2.2.1
theorem dL_law_850 : decode cL_law 850 = .ok (.iaload, 1) := dcL_568.2.2.2.1
theorem dL_law_851 : decode cL_law 851 = .ok (.invokevirtual 90, 3) := dcL_568.2.2.2.2.1
theorem dL_law_854 : decode cL_law 854 = .ok (.pop, 1) := dcL_568.2.2.2.2.2.1
theorem dL_law_855 : decode cL_law 855 = .ok (.goto 604, 3) := dcL_568.2.2.2.2.2.2.1
theorem dL_law_858 : decode cL_law 858 = .ok (.aload_n 1, 1) := dcL_568.2.2.2.2.2.2.2
theorem dcL_576 : (decode cL_law 859 = .ok (.aload_n 0, 1)) ∧ (decode cL_law 860 = .ok (.iload_n 3, 1)) ∧ (decode cL_law 861 = .ok (.iconst 1, 1)) ∧ (decode cL_law 862 = .ok (.iadd, 1)) ∧ (decode cL_law 863 = .ok (.iaload, 1)) ∧ (decode cL_law 864 = .ok (.aload_n 0, 1)) ∧ (decode cL_law 865 = .ok (.iload_n 3, 1)) ∧ (decode cL_law 866 = .ok (.iconst 2, 1)) := by decide +kernel
theorem dL_law_859 : decode cL_law 859 = .ok (.aload_n 0, 1) := dcL_576.1
theorem dL_law_860 : decode cL_law 860 = .ok (.iload_n 3, 1) := dcL_576.2.1
theorem dL_law_861 : decode cL_law 861 = .ok (.iconst 1, 1) := dcL_576.2.2.1
theorem dL_law_862 : decode cL_law 862 = .ok (.iadd, 1) := dcL_576.2.2.2.1
theorem dL_law_863 : decode cL_law 863 = .ok (.iaload, 1) := dcL_576.2.2.2.2.1
theorem dL_law_864 : decode cL_law 864 = .ok (.aload_n 0, 1) := dcL_576.2.2.2.2.2.1
theorem dL_law_865 : decode cL_law 865 = .ok (.iload_n 3, 1) := dcL_576.2.2.2.2.2.2.1
theorem dL_law_866 : decode cL_law 866 = .ok (.iconst 2, 1) := dcL_576.2.2.2.2.2.2.2
theorem dcL_584 : (decode cL_law 867 = .ok (.iadd, 1)) ∧ (decode cL_law 868 = .ok (.iaload, 1)) ∧ (decode cL_law 869 = .ok (.invokevirtual 91, 3)) ∧ (decode cL_law 872 = .ok (.pop, 1)) ∧ (decode cL_law 873 = .ok (.aload_n 2, 1)) ∧ (decode cL_law 874 = .ok (.aload_n 0, 1)) ∧ (decode cL_law 875 = .ok (.iload_n 3, 1)) ∧ (decode cL_law 876 = .ok (.iconst 1, 1)) := by decide +kernel
theorem dL_law_867 : decode cL_law 867 = .ok (.iadd, 1) := dcL_584.1
theorem dL_law_868 : decode cL_law 868 = .ok (.iaload, 1) := dcL_584.2.1
theorem dL_law_869 : decode cL_law 869 = .ok (.invokevirtual 91, 3) := dcL_584.2.2.1
theorem dL_law_872 : decode cL_law 872 = .ok (.pop, 1) := dcL_584.2.2.2.1
theorem dL_law_873 : decode cL_law 873 = .ok (.aload_n 2, 1) := dcL_584.2.2.2.2.1
theorem dL_law_874 : decode cL_law 874 = .ok (.aload_n 0, 1) := dcL_584.2.2.2.2.2.1
theorem dL_law_875 : decode cL_law 875 = .ok (.iload_n 3, 1) := dcL_584.2.2.2.2.2.2.1
theorem dL_law_876 : decode cL_law 876 = .ok (.iconst 1, 1) := dcL_584.2.2.2.2.2.2.2
theorem dcL_592 : (decode cL_law 877 = .ok (.iadd, 1)) ∧ (decode cL_law 878 = .ok (.iaload, 1)) ∧ (decode cL_law 879 = .ok (.aload_n 0, 1)) ∧ (decode cL_law 880 = .ok (.iload_n 3, 1)) ∧ (decode cL_law 881 = .ok (.iconst 2, 1)) ∧ (decode cL_law 882 = .ok (.iadd, 1)) ∧ (decode cL_law 883 = .ok (.iaload, 1)) ∧ (decode cL_law 884 = .ok (.invokevirtual 94, 3)) := by decide +kernel
theorem dL_law_877 : decode cL_law 877 = .ok (.iadd, 1) := dcL_592.1
theorem dL_law_878 : decode cL_law 878 = .ok (.iaload, 1) := dcL_592.2.1
theorem dL_law_879 : decode cL_law 879 = .ok (.aload_n 0, 1) := dcL_592.2.2.1
theorem dL_law_880 : decode cL_law 880 = .ok (.iload_n 3, 1) := dcL_592.2.2.2.1
theorem dL_law_881 : decode cL_law 881 = .ok (.iconst 2, 1) := dcL_592.2.2.2.2.1
theorem dL_law_882 : decode cL_law 882 = .ok (.iadd, 1) := dcL_592.2.2.2.2.2.1
theorem dL_law_883 : decode cL_law 883 = .ok (.iaload, 1) := dcL_592.2.2.2.2.2.2.1
theorem dL_law_884 : decode cL_law 884 = .ok (.invokevirtual 94, 3) := dcL_592.2.2.2.2.2.2.2
theorem dcL_600 : (decode cL_law 887 = .ok (.pop, 1)) ∧ (decode cL_law 888 = .ok (.goto 571, 3)) ∧ (decode cL_law 891 = .ok (.aload_n 1, 1)) ∧ (decode cL_law 892 = .ok (.aload_n 0, 1)) ∧ (decode cL_law 893 = .ok (.iload_n 3, 1)) ∧ (decode cL_law 894 = .ok (.iconst 1, 1)) ∧ (decode cL_law 895 = .ok (.iadd, 1)) ∧ (decode cL_law 896 = .ok (.iaload, 1)) := by decide +kernel
theorem dL_law_887 : decode cL_law 887 = .ok (.pop, 1) := dcL_600.1
theorem dL_law_888 : decode cL_law 888 = .ok (.goto 571, 3) := dcL_600.2.1
theorem dL_law_891 : decode cL_law 891 = .ok (.aload_n 1, 1) := dcL_600.2.2.1
theorem dL_law_892 : decode cL_law 892 = .ok (.aload_n 0, 1) := dcL_600.2.2.2.1
theorem dL_law_893 : decode cL_law 893 = .ok (.iload_n 3, 1) := dcL_600.2.2.2.2.1
theorem dL_law_894 : decode cL_law 894 = .ok (.iconst 1, 1) := dcL_600.2.2.2.2.2.1
theorem dL_law_895 : decode cL_law 895 = .ok (.iadd, 1) := dcL_600.2.2.2.2.2.2.1
theorem dL_law_896 : decode cL_law 896 = .ok (.iaload, 1) := dcL_600.2.2.2.2.2.2.2
theorem dcL_608 : (decode cL_law 897 = .ok (.aload_n 0, 1)) ∧ (decode cL_law 898 = .ok (.iload_n 3, 1)) ∧ (decode cL_law 899 = .ok (.iconst 2, 1)) ∧ (decode cL_law 900 = .ok (.iadd, 1)) ∧ (decode cL_law 901 = .ok (.iaload, 1)) ∧ (decode cL_law 902 = .ok (.aload_n 0, 1)) ∧ (decode cL_law 903 = .ok (.iload_n 3, 1)) ∧ (decode cL_law 904 = .ok (.iconst 3, 1)) := by decide +kernel
theorem dL_law_897 : decode cL_law 897 = .ok (.aload_n 0, 1) := dcL_608.1
theorem dL_law_898 : decode cL_law 898 = .ok (.iload_n 3, 1) := dcL_608.2.1
theorem dL_law_899 : decode cL_law 899 = .ok (.iconst 2, 1) := dcL_608.2.2.1
theorem dL_law_900 : decode cL_law 900 = .ok (.iadd, 1) := dcL_608.2.2.2.1
theorem dL_law_901 : decode cL_law 901 = .ok (.iaload, 1) := dcL_608.2.2.2.2.1
theorem dL_law_902 : decode cL_law 902 = .ok (.aload_n 0, 1) := dcL_608.2.2.2.2.2.1
theorem dL_law_903 : decode cL_law 903 = .ok (.iload_n 3, 1) := dcL_608.2.2.2.2.2.2.1
theorem dL_law_904 : decode cL_law 904 = .ok (.iconst 3, 1) := dcL_608.2.2.2.2.2.2.2
theorem dcL_616 : (decode cL_law 905 = .ok (.iadd, 1)) ∧ (decode cL_law 906 = .ok (.iaload, 1)) ∧ (decode cL_law 907 = .ok (.invokevirtual 95, 3)) ∧ (decode cL_law 910 = .ok (.pop, 1)) ∧ (decode cL_law 911 = .ok (.aload_n 2, 1)) ∧ (decode cL_law 912 = .ok (.aload_n 0, 1)) ∧ (decode cL_law 913 = .ok (.iload_n 3, 1)) ∧ (decode cL_law 914 = .ok (.iconst 1, 1)) := by decide +kernel
theorem dL_law_905 : decode cL_law 905 = .ok (.iadd, 1) := dcL_616.1
theorem dL_law_906 : decode cL_law 906 = .ok (.iaload, 1) := dcL_616.2.1
theorem dL_law_907 : decode cL_law 907 = .ok (.invokevirtual 95, 3) := dcL_616.2.2.1
theorem dL_law_910 : decode cL_law 910 = .ok (.pop, 1) := dcL_616.2.2.2.1
theorem dL_law_911 : decode cL_law 911 = .ok (.aload_n 2, 1) := dcL_616.2.2.2.2.1
theorem dL_law_912 : decode cL_law 912 = .ok (.aload_n 0, 1) := dcL_616.2.2.2.2.2.1
theorem dL_law_913 : decode cL_law 913 = .ok (.iload_n 3, 1) := dcL_616.2.2.2.2.2.2.1
theorem dL_law_914 : decode cL_law 914 = .ok (.iconst 1, 1) := dcL_616.2.2.2.2.2.2.2
theorem dcL_624 : (decode cL_law 915 = .ok (.iadd, 1)) ∧ (decode cL_law 916 = .ok (.iaload, 1)) ∧ (decode cL_law 917 = .ok (.aload_n 0, 1)) ∧ (decode cL_law 918 = .ok (.iload_n 3, 1)) ∧ (decode cL_law 919 = .ok (.iconst 2, 1)) ∧ (decode cL_law 920 = .ok (.iadd, 1)) ∧ (decode cL_law 921 = .ok (.iaload, 1)) ∧ (decode cL_law 922 = .ok (.aload_n 0, 1)) := by decide +kernel
theorem dL_law_915 : decode cL_law 915 = .ok (.iadd, 1) := dcL_624.1
theorem dL_law_916 : decode cL_law 916 = .ok (.iaload, 1) := dcL_624.2.1
theorem dL_law_917 : decode cL_law 917 = .ok (.aload_n 0, 1) := dcL_624.2.2.1
theorem dL_law_918 : decode cL_law 918 = .ok (.iload_n 3, 1) := dcL_624.2.2.2.1
theorem dL_law_919 : decode cL_law 919 = .ok (.iconst 2, 1) := dcL_624.2.2.2.2.1
theorem dL_law_920 : decode cL_law 920 = .ok (.iadd, 1) := dcL_624.2.2.2.2.2.1
theorem dL_law_921 : decode cL_law 921 = .ok (.iaload, 1) := dcL_624.2.2.2.2.2.2.1
theorem dL_law_922 : decode cL_law 922 = .ok (.aload_n 0, 1) := dcL_624.2.2.2.2.2.2.2
theorem dcL_632 : (decode cL_law 923 = .ok (.iload_n 3, 1)) ∧ (decode cL_law 924 = .ok (.iconst 3, 1)) ∧ (decode cL_law 925 = .ok (.iadd, 1)) ∧ (decode cL_law 926 = .ok (.iaload, 1)) ∧ (decode cL_law 927 = .ok (.invokevirtual 98, 3)) ∧ (decode cL_law 930 = .ok (.pop, 1)) ∧ (decode cL_law 931 = .ok (.goto 528, 3)) ∧ (decode cL_law 934 = .ok (.aload_n 1, 1)) := by decide +kernel
theorem dL_law_923 : decode cL_law 923 = .ok (.iload_n 3, 1) := dcL_632.1
theorem dL_law_924 : decode cL_law 924 = .ok (.iconst 3, 1) := dcL_632.2.1
theorem dL_law_925 : decode cL_law 925 = .ok (.iadd, 1) := dcL_632.2.2.1
theorem dL_law_926 : decode cL_law 926 = .ok (.iaload, 1) := dcL_632.2.2.2.1
theorem dL_law_927 : decode cL_law 927 = .ok (.invokevirtual 98, 3) := dcL_632.2.2.2.2.1
theorem dL_law_930 : decode cL_law 930 = .ok (.pop, 1) := dcL_632.2.2.2.2.2.1
theorem dL_law_931 : decode cL_law 931 = .ok (.goto 528, 3) := dcL_632.2.2.2.2.2.2.1
theorem dL_law_934 : decode cL_law 934 = .ok (.aload_n 1, 1) := dcL_632.2.2.2.2.2.2.2
theorem dcL_640 : (decode cL_law 935 = .ok (.aload_n 0, 1)) ∧ (decode cL_law 936 = .ok (.iload_n 3, 1)) ∧ (decode cL_law 937 = .ok (.iconst 1, 1)) ∧ (decode cL_law 938 = .ok (.iadd, 1)) ∧ (decode cL_law 939 = .ok (.iaload, 1)) ∧ (decode cL_law 940 = .ok (.aload_n 0, 1)) ∧ (decode cL_law 941 = .ok (.iload_n 3, 1)) ∧ (decode cL_law 942 = .ok (.iconst 2, 1)) := by decide +kernel
theorem dL_law_935 : decode cL_law 935 = .ok (.aload_n 0, 1) := dcL_640.1
theorem dL_law_936 : decode cL_law 936 = .ok (.iload_n 3, 1) := dcL_640.2.1
theorem dL_law_937 : decode cL_law 937 = .ok (.iconst 1, 1) := dcL_640.2.2.1
theorem dL_law_938 : decode cL_law 938 = .ok (.iadd, 1) := dcL_640.2.2.2.1
theorem dL_law_939 : decode cL_law 939 = .ok (.iaload, 1) := dcL_640.2.2.2.2.1
theorem dL_law_940 : decode cL_law 940 = .ok (.aload_n 0, 1) := dcL_640.2.2.2.2.2.1
theorem dL_law_941 : decode cL_law 941 = .ok (.iload_n 3, 1) := dcL_640.2.2.2.2.2.2.1
theorem dL_law_942 : decode cL_law 942 = .ok (.iconst 2, 1) := dcL_640.2.2.2.2.2.2.2
theorem dcL_648 : (decode cL_law 943 = .ok (.iadd, 1)) ∧ (decode cL_law 944 = .ok (.iaload, 1)) ∧ (decode cL_law 945 = .ok (.i2l, 1)) ∧ (decode cL_law 946 = .ok (.bipush 32, 2)) ∧ (decode cL_law 948 = .ok (.lshl, 1)) ∧ (decode cL_law 949 = .ok (.aload_n 0, 1)) ∧ (decode cL_law 950 = .ok (.iload_n 3, 1)) ∧ (decode cL_law 951 = .ok (.iconst 3, 1)) := by decide +kernel
theorem dL_law_943 : decode cL_law 943 = .ok (.iadd, 1) := dcL_648.1
theorem dL_law_944 : decode cL_law 944 = .ok (.iaload, 1) := dcL_648.2.1
theorem dL_law_945 : decode cL_law 945 = .ok (.i2l, 1) := dcL_648.2.2.1
theorem dL_law_946 : decode cL_law 946 = .ok (.bipush 32, 2) := dcL_648.2.2.2.1
theorem dL_law_948 : decode cL_law 948 = .ok (.lshl, 1) := dcL_648.2.2.2.2.1
theorem dL_law_949 : decode cL_law 949 = .ok (.aload_n 0, 1) := dcL_648.2.2.2.2.2.1
theorem dL_law_950 : decode cL_law 950 = .ok (.iload_n 3, 1) := dcL_648.2.2.2.2.2.2.1
theorem dL_law_951 : decode cL_law 951 = .ok (.iconst 3, 1) := dcL_648.2.2.2.2.2.2.2
theorem dcL_656 : (decode cL_law 952 = .ok (.iadd, 1)) ∧ (decode cL_law 953 = .ok (.iaload, 1)) ∧ (decode cL_law 954 = .ok (.i2l, 1)) ∧ (decode cL_law 955 = .ok (.ldc2_w 99, 3)) ∧ (decode cL_law 958 = .ok (.land, 1)) ∧ (decode cL_law 959 = .ok (.lor, 1)) ∧ (decode cL_law 960 = .ok (.invokevirtual 101, 3)) ∧ (decode cL_law 963 = .ok (.pop, 1)) := by decide +kernel
theorem dL_law_952 : decode cL_law 952 = .ok (.iadd, 1) := dcL_656.1
theorem dL_law_953 : decode cL_law 953 = .ok (.iaload, 1) := dcL_656.2.1
theorem dL_law_954 : decode cL_law 954 = .ok (.i2l, 1) := dcL_656.2.2.1
theorem dL_law_955 : decode cL_law 955 = .ok (.ldc2_w 99, 3) := dcL_656.2.2.2.1
theorem dL_law_958 : decode cL_law 958 = .ok (.land, 1) := dcL_656.2.2.2.2.1
theorem dL_law_959 : decode cL_law 959 = .ok (.lor, 1) := dcL_656.2.2.2.2.2.1
theorem dL_law_960 : decode cL_law 960 = .ok (.invokevirtual 101, 3) := dcL_656.2.2.2.2.2.2.1
theorem dL_law_963 : decode cL_law 963 = .ok (.pop, 1) := dcL_656.2.2.2.2.2.2.2
theorem dcL_664 : (decode cL_law 964 = .ok (.aload_n 2, 1)) ∧ (decode cL_law 965 = .ok (.aload_n 0, 1)) ∧ (decode cL_law 966 = .ok (.iload_n 3, 1)) ∧ (decode cL_law 967 = .ok (.iconst 1, 1)) ∧ (decode cL_law 968 = .ok (.iadd, 1)) ∧ (decode cL_law 969 = .ok (.iaload, 1)) ∧ (decode cL_law 970 = .ok (.aload_n 0, 1)) ∧ (decode cL_law 971 = .ok (.iload_n 3, 1)) := by decide +kernel
theorem dL_law_964 : decode cL_law 964 = .ok (.aload_n 2, 1) := dcL_664.1
theorem dL_law_965 : decode cL_law 965 = .ok (.aload_n 0, 1) := dcL_664.2.1
theorem dL_law_966 : decode cL_law 966 = .ok (.iload_n 3, 1) := dcL_664.2.2.1
theorem dL_law_967 : decode cL_law 967 = .ok (.iconst 1, 1) := dcL_664.2.2.2.1
theorem dL_law_968 : decode cL_law 968 = .ok (.iadd, 1) := dcL_664.2.2.2.2.1
theorem dL_law_969 : decode cL_law 969 = .ok (.iaload, 1) := dcL_664.2.2.2.2.2.1
theorem dL_law_970 : decode cL_law 970 = .ok (.aload_n 0, 1) := dcL_664.2.2.2.2.2.2.1
theorem dL_law_971 : decode cL_law 971 = .ok (.iload_n 3, 1) := dcL_664.2.2.2.2.2.2.2
theorem dcL_672 : (decode cL_law 972 = .ok (.iconst 2, 1)) ∧ (decode cL_law 973 = .ok (.iadd, 1)) ∧ (decode cL_law 974 = .ok (.iaload, 1)) ∧ (decode cL_law 975 = .ok (.i2l, 1)) ∧ (decode cL_law 976 = .ok (.bipush 32, 2)) ∧ (decode cL_law 978 = .ok (.lshl, 1)) ∧ (decode cL_law 979 = .ok (.aload_n 0, 1)) ∧ (decode cL_law 980 = .ok (.iload_n 3, 1)) := by decide +kernel
theorem dL_law_972 : decode cL_law 972 = .ok (.iconst 2, 1) := dcL_672.1
theorem dL_law_973 : decode cL_law 973 = .ok (.iadd, 1) := dcL_672.2.1
theorem dL_law_974 : decode cL_law 974 = .ok (.iaload, 1) := dcL_672.2.2.1
theorem dL_law_975 : decode cL_law 975 = .ok (.i2l, 1) := dcL_672.2.2.2.1
theorem dL_law_976 : decode cL_law 976 = .ok (.bipush 32, 2) := dcL_672.2.2.2.2.1
theorem dL_law_978 : decode cL_law 978 = .ok (.lshl, 1) := dcL_672.2.2.2.2.2.1
theorem dL_law_979 : decode cL_law 979 = .ok (.aload_n 0, 1) := dcL_672.2.2.2.2.2.2.1
theorem dL_law_980 : decode cL_law 980 = .ok (.iload_n 3, 1) := dcL_672.2.2.2.2.2.2.2
theorem dcL_680 : (decode cL_law 981 = .ok (.iconst 3, 1)) ∧ (decode cL_law 982 = .ok (.iadd, 1)) ∧ (decode cL_law 983 = .ok (.iaload, 1)) ∧ (decode cL_law 984 = .ok (.i2l, 1)) ∧ (decode cL_law 985 = .ok (.ldc2_w 99, 3)) ∧ (decode cL_law 988 = .ok (.land, 1)) ∧ (decode cL_law 989 = .ok (.lor, 1)) ∧ (decode cL_law 990 = .ok (.invokevirtual 105, 3)) := by decide +kernel
theorem dL_law_981 : decode cL_law 981 = .ok (.iconst 3, 1) := dcL_680.1
theorem dL_law_982 : decode cL_law 982 = .ok (.iadd, 1) := dcL_680.2.1
theorem dL_law_983 : decode cL_law 983 = .ok (.iaload, 1) := dcL_680.2.2.1
theorem dL_law_984 : decode cL_law 984 = .ok (.i2l, 1) := dcL_680.2.2.2.1
theorem dL_law_985 : decode cL_law 985 = .ok (.ldc2_w 99, 3) := dcL_680.2.2.2.2.1
theorem dL_law_988 : decode cL_law 988 = .ok (.land, 1) := dcL_680.2.2.2.2.2.1
theorem dL_law_989 : decode cL_law 989 = .ok (.lor, 1) := dcL_680.2.2.2.2.2.2.1
theorem dL_law_990 : decode cL_law 990 = .ok (.invokevirtual 105, 3) := dcL_680.2.2.2.2.2.2.2
theorem dcL_688 : (decode cL_law 993 = .ok (.pop, 1)) ∧ (decode cL_law 994 = .ok (.goto 465, 3)) ∧ (decode cL_law 997 = .ok (.aload_n 1, 1)) ∧ (decode cL_law 998 = .ok (.aload_n 0, 1)) ∧ (decode cL_law 999 = .ok (.iload_n 3, 1)) ∧ (decode cL_law 1000 = .ok (.iconst 1, 1)) ∧ (decode cL_law 1001 = .ok (.iadd, 1)) ∧ (decode cL_law 1002 = .ok (.iaload, 1)) := by decide +kernel
theorem dL_law_993 : decode cL_law 993 = .ok (.pop, 1) := dcL_688.1
theorem dL_law_994 : decode cL_law 994 = .ok (.goto 465, 3) := dcL_688.2.1
theorem dL_law_997 : decode cL_law 997 = .ok (.aload_n 1, 1) := dcL_688.2.2.1
theorem dL_law_998 : decode cL_law 998 = .ok (.aload_n 0, 1) := dcL_688.2.2.2.1
theorem dL_law_999 : decode cL_law 999 = .ok (.iload_n 3, 1) := dcL_688.2.2.2.2.1
theorem dL_law_1000 : decode cL_law 1000 = .ok (.iconst 1, 1) := dcL_688.2.2.2.2.2.1
theorem dL_law_1001 : decode cL_law 1001 = .ok (.iadd, 1) := dcL_688.2.2.2.2.2.2.1
theorem dL_law_1002 : decode cL_law 1002 = .ok (.iaload, 1) := dcL_688.2.2.2.2.2.2.2
theorem dcL_696 : (decode cL_law 1003 = .ok (.invokevirtual 106, 3)) ∧ (decode cL_law 1006 = .ok (.pop, 1)) ∧ (decode cL_law 1007 = .ok (.aload_n 2, 1)) ∧ (decode cL_law 1008 = .ok (.aload_n 0, 1)) ∧ (decode cL_law 1009 = .ok (.iload_n 3, 1)) ∧ (decode cL_law 1010 = .ok (.iconst 1, 1)) ∧ (decode cL_law 1011 = .ok (.iadd, 1)) ∧ (decode cL_law 1012 = .ok (.iaload, 1)) := by decide +kernel
theorem dL_law_1003 : decode cL_law 1003 = .ok (.invokevirtual 106, 3) := dcL_696.1
theorem dL_law_1006 : decode cL_law 1006 = .ok (.pop, 1) := dcL_696.2.1
theorem dL_law_1007 : decode cL_law 1007 = .ok (.aload_n 2, 1) := dcL_696.2.2.1
theorem dL_law_1008 : decode cL_law 1008 = .ok (.aload_n 0, 1) := dcL_696.2.2.2.1
theorem dL_law_1009 : decode cL_law 1009 = .ok (.iload_n 3, 1) := dcL_696.2.2.2.2.1
theorem dL_law_1010 : decode cL_law 1010 = .ok (.iconst 1, 1) := dcL_696.2.2.2.2.2.1
theorem dL_law_1011 : decode cL_law 1011 = .ok (.iadd, 1) := dcL_696.2.2.2.2.2.2.1
theorem dL_law_1012 : decode cL_law 1012 = .ok (.iaload, 1) := dcL_696.2.2.2.2.2.2.2
theorem dcL_704 : (decode cL_law 1013 = .ok (.invokevirtual 109, 3)) ∧ (decode cL_law 1016 = .ok (.pop, 1)) ∧ (decode cL_law 1017 = .ok (.goto 442, 3)) ∧ (decode cL_law 1020 = .ok (.aload_n 1, 1)) ∧ (decode cL_law 1021 = .ok (.aload_n 0, 1)) ∧ (decode cL_law 1022 = .ok (.iload_n 3, 1)) ∧ (decode cL_law 1023 = .ok (.iconst 1, 1)) ∧ (decode cL_law 1024 = .ok (.iadd, 1)) := by decide +kernel
theorem dL_law_1013 : decode cL_law 1013 = .ok (.invokevirtual 109, 3) := dcL_704.1
theorem dL_law_1016 : decode cL_law 1016 = .ok (.pop, 1) := dcL_704.2.1
theorem dL_law_1017 : decode cL_law 1017 = .ok (.goto 442, 3) := dcL_704.2.2.1
theorem dL_law_1020 : decode cL_law 1020 = .ok (.aload_n 1, 1) := dcL_704.2.2.2.1
theorem dL_law_1021 : decode cL_law 1021 = .ok (.aload_n 0, 1) := dcL_704.2.2.2.2.1
theorem dL_law_1022 : decode cL_law 1022 = .ok (.iload_n 3, 1) := dcL_704.2.2.2.2.2.1
theorem dL_law_1023 : decode cL_law 1023 = .ok (.iconst 1, 1) := dcL_704.2.2.2.2.2.2.1
theorem dL_law_1024 : decode cL_law 1024 = .ok (.iadd, 1) := dcL_704.2.2.2.2.2.2.2
theorem dcL_712 : (decode cL_law 1025 = .ok (.iaload, 1)) ∧ (decode cL_law 1026 = .ok (.invokevirtual 110, 3)) ∧ (decode cL_law 1029 = .ok (.pop, 1)) ∧ (decode cL_law 1030 = .ok (.aload_n 2, 1)) ∧ (decode cL_law 1031 = .ok (.aload_n 0, 1)) ∧ (decode cL_law 1032 = .ok (.iload_n 3, 1)) ∧ (decode cL_law 1033 = .ok (.iconst 1, 1)) ∧ (decode cL_law 1034 = .ok (.iadd, 1)) := by decide +kernel
theorem dL_law_1025 : decode cL_law 1025 = .ok (.iaload, 1) := dcL_712.1
theorem dL_law_1026 : decode cL_law 1026 = .ok (.invokevirtual 110, 3) := dcL_712.2.1
theorem dL_law_1029 : decode cL_law 1029 = .ok (.pop, 1) := dcL_712.2.2.1
theorem dL_law_1030 : decode cL_law 1030 = .ok (.aload_n 2, 1) := dcL_712.2.2.2.1
theorem dL_law_1031 : decode cL_law 1031 = .ok (.aload_n 0, 1) := dcL_712.2.2.2.2.1
theorem dL_law_1032 : decode cL_law 1032 = .ok (.iload_n 3, 1) := dcL_712.2.2.2.2.2.1
theorem dL_law_1033 : decode cL_law 1033 = .ok (.iconst 1, 1) := dcL_712.2.2.2.2.2.2.1
theorem dL_law_1034 : decode cL_law 1034 = .ok (.iadd, 1) := dcL_712.2.2.2.2.2.2.2
theorem dcL_720 : (decode cL_law 1035 = .ok (.iaload, 1)) ∧ (decode cL_law 1036 = .ok (.invokevirtual 113, 3)) ∧ (decode cL_law 1039 = .ok (.pop, 1)) ∧ (decode cL_law 1040 = .ok (.goto 419, 3)) ∧ (decode cL_law 1043 = .ok (.aload_n 1, 1)) ∧ (decode cL_law 1044 = .ok (.aload_n 0, 1)) ∧ (decode cL_law 1045 = .ok (.iload_n 3, 1)) ∧ (decode cL_law 1046 = .ok (.iconst 1, 1)) := by decide +kernel
theorem dL_law_1035 : decode cL_law 1035 = .ok (.iaload, 1) := dcL_720.1
theorem dL_law_1036 : decode cL_law 1036 = .ok (.invokevirtual 113, 3) := dcL_720.2.1
theorem dL_law_1039 : decode cL_law 1039 = .ok (.pop, 1) := dcL_720.2.2.1
theorem dL_law_1040 : decode cL_law 1040 = .ok (.goto 419, 3) := dcL_720.2.2.2.1
theorem dL_law_1043 : decode cL_law 1043 = .ok (.aload_n 1, 1) := dcL_720.2.2.2.2.1
theorem dL_law_1044 : decode cL_law 1044 = .ok (.aload_n 0, 1) := dcL_720.2.2.2.2.2.1
theorem dL_law_1045 : decode cL_law 1045 = .ok (.iload_n 3, 1) := dcL_720.2.2.2.2.2.2.1
theorem dL_law_1046 : decode cL_law 1046 = .ok (.iconst 1, 1) := dcL_720.2.2.2.2.2.2.2
theorem dcL_728 : (decode cL_law 1047 = .ok (.iadd, 1)) ∧ (decode cL_law 1048 = .ok (.iaload, 1)) ∧ (decode cL_law 1049 = .ok (.aload_n 0, 1)) ∧ (decode cL_law 1050 = .ok (.iload_n 3, 1)) ∧ (decode cL_law 1051 = .ok (.iconst 2, 1)) ∧ (decode cL_law 1052 = .ok (.iadd, 1)) ∧ (decode cL_law 1053 = .ok (.iaload, 1)) ∧ (decode cL_law 1054 = .ok (.aload_n 0, 1)) := by decide +kernel
theorem dL_law_1047 : decode cL_law 1047 = .ok (.iadd, 1) := dcL_728.1
theorem dL_law_1048 : decode cL_law 1048 = .ok (.iaload, 1) := dcL_728.2.1
theorem dL_law_1049 : decode cL_law 1049 = .ok (.aload_n 0, 1) := dcL_728.2.2.1
theorem dL_law_1050 : decode cL_law 1050 = .ok (.iload_n 3, 1) := dcL_728.2.2.2.1
theorem dL_law_1051 : decode cL_law 1051 = .ok (.iconst 2, 1) := dcL_728.2.2.2.2.1
theorem dL_law_1052 : decode cL_law 1052 = .ok (.iadd, 1) := dcL_728.2.2.2.2.2.1
theorem dL_law_1053 : decode cL_law 1053 = .ok (.iaload, 1) := dcL_728.2.2.2.2.2.2.1
theorem dL_law_1054 : decode cL_law 1054 = .ok (.aload_n 0, 1) := dcL_728.2.2.2.2.2.2.2
theorem dcL_736 : (decode cL_law 1055 = .ok (.iload_n 3, 1)) ∧ (decode cL_law 1056 = .ok (.iconst 3, 1)) ∧ (decode cL_law 1057 = .ok (.iadd, 1)) ∧ (decode cL_law 1058 = .ok (.iaload, 1)) ∧ (decode cL_law 1059 = .ok (.invokevirtual 114, 3)) ∧ (decode cL_law 1062 = .ok (.pop, 1)) ∧ (decode cL_law 1063 = .ok (.aload_n 2, 1)) ∧ (decode cL_law 1064 = .ok (.aload_n 0, 1)) := by decide +kernel
theorem dL_law_1055 : decode cL_law 1055 = .ok (.iload_n 3, 1) := dcL_736.1
theorem dL_law_1056 : decode cL_law 1056 = .ok (.iconst 3, 1) := dcL_736.2.1
theorem dL_law_1057 : decode cL_law 1057 = .ok (.iadd, 1) := dcL_736.2.2.1
theorem dL_law_1058 : decode cL_law 1058 = .ok (.iaload, 1) := dcL_736.2.2.2.1
theorem dL_law_1059 : decode cL_law 1059 = .ok (.invokevirtual 114, 3) := dcL_736.2.2.2.2.1
theorem dL_law_1062 : decode cL_law 1062 = .ok (.pop, 1) := dcL_736.2.2.2.2.2.1
theorem dL_law_1063 : decode cL_law 1063 = .ok (.aload_n 2, 1) := dcL_736.2.2.2.2.2.2.1
theorem dL_law_1064 : decode cL_law 1064 = .ok (.aload_n 0, 1) := dcL_736.2.2.2.2.2.2.2
theorem dcL_744 : (decode cL_law 1065 = .ok (.iload_n 3, 1)) ∧ (decode cL_law 1066 = .ok (.iconst 1, 1)) ∧ (decode cL_law 1067 = .ok (.iadd, 1)) ∧ (decode cL_law 1068 = .ok (.iaload, 1)) ∧ (decode cL_law 1069 = .ok (.aload_n 0, 1)) ∧ (decode cL_law 1070 = .ok (.iload_n 3, 1)) ∧ (decode cL_law 1071 = .ok (.iconst 2, 1)) ∧ (decode cL_law 1072 = .ok (.iadd, 1)) := by decide +kernel
theorem dL_law_1065 : decode cL_law 1065 = .ok (.iload_n 3, 1) := dcL_744.1
theorem dL_law_1066 : decode cL_law 1066 = .ok (.iconst 1, 1) := dcL_744.2.1
theorem dL_law_1067 : decode cL_law 1067 = .ok (.iadd, 1) := dcL_744.2.2.1
theorem dL_law_1068 : decode cL_law 1068 = .ok (.iaload, 1) := dcL_744.2.2.2.1
theorem dL_law_1069 : decode cL_law 1069 = .ok (.aload_n 0, 1) := dcL_744.2.2.2.2.1
theorem dL_law_1070 : decode cL_law 1070 = .ok (.iload_n 3, 1) := dcL_744.2.2.2.2.2.1
theorem dL_law_1071 : decode cL_law 1071 = .ok (.iconst 2, 1) := dcL_744.2.2.2.2.2.2.1
theorem dL_law_1072 : decode cL_law 1072 = .ok (.iadd, 1) := dcL_744.2.2.2.2.2.2.2
theorem dcL_752 : (decode cL_law 1073 = .ok (.iaload, 1)) ∧ (decode cL_law 1074 = .ok (.aload_n 0, 1)) ∧ (decode cL_law 1075 = .ok (.iload_n 3, 1)) ∧ (decode cL_law 1076 = .ok (.iconst 3, 1)) ∧ (decode cL_law 1077 = .ok (.iadd, 1)) ∧ (decode cL_law 1078 = .ok (.iaload, 1)) ∧ (decode cL_law 1079 = .ok (.invokevirtual 117, 3)) ∧ (decode cL_law 1082 = .ok (.pop, 1)) := by decide +kernel
theorem dL_law_1073 : decode cL_law 1073 = .ok (.iaload, 1) := dcL_752.1
theorem dL_law_1074 : decode cL_law 1074 = .ok (.aload_n 0, 1) := dcL_752.2.1
theorem dL_law_1075 : decode cL_law 1075 = .ok (.iload_n 3, 1) := dcL_752.2.2.1
theorem dL_law_1076 : decode cL_law 1076 = .ok (.iconst 3, 1) := dcL_752.2.2.2.1
theorem dL_law_1077 : decode cL_law 1077 = .ok (.iadd, 1) := dcL_752.2.2.2.2.1
theorem dL_law_1078 : decode cL_law 1078 = .ok (.iaload, 1) := dcL_752.2.2.2.2.2.1
theorem dL_law_1079 : decode cL_law 1079 = .ok (.invokevirtual 117, 3) := dcL_752.2.2.2.2.2.2.1
theorem dL_law_1082 : decode cL_law 1082 = .ok (.pop, 1) := dcL_752.2.2.2.2.2.2.2
theorem dcL_760 : (decode cL_law 1083 = .ok (.goto 376, 3)) ∧ (decode cL_law 1086 = .ok (.aload_n 1, 1)) ∧ (decode cL_law 1087 = .ok (.aload_n 0, 1)) ∧ (decode cL_law 1088 = .ok (.iload_n 3, 1)) ∧ (decode cL_law 1089 = .ok (.iconst 1, 1)) ∧ (decode cL_law 1090 = .ok (.iadd, 1)) ∧ (decode cL_law 1091 = .ok (.iaload, 1)) ∧ (decode cL_law 1092 = .ok (.aload_n 0, 1)) := by decide +kernel
theorem dL_law_1083 : decode cL_law 1083 = .ok (.goto 376, 3) := dcL_760.1
theorem dL_law_1086 : decode cL_law 1086 = .ok (.aload_n 1, 1) := dcL_760.2.1
theorem dL_law_1087 : decode cL_law 1087 = .ok (.aload_n 0, 1) := dcL_760.2.2.1
theorem dL_law_1088 : decode cL_law 1088 = .ok (.iload_n 3, 1) := dcL_760.2.2.2.1
theorem dL_law_1089 : decode cL_law 1089 = .ok (.iconst 1, 1) := dcL_760.2.2.2.2.1
theorem dL_law_1090 : decode cL_law 1090 = .ok (.iadd, 1) := dcL_760.2.2.2.2.2.1
theorem dL_law_1091 : decode cL_law 1091 = .ok (.iaload, 1) := dcL_760.2.2.2.2.2.2.1
theorem dL_law_1092 : decode cL_law 1092 = .ok (.aload_n 0, 1) := dcL_760.2.2.2.2.2.2.2
theorem dcL_768 : (decode cL_law 1093 = .ok (.iload_n 3, 1)) ∧ (decode cL_law 1094 = .ok (.iconst 2, 1)) ∧ (decode cL_law 1095 = .ok (.iadd, 1)) ∧ (decode cL_law 1096 = .ok (.iaload, 1)) ∧ (decode cL_law 1097 = .ok (.aload_n 0, 1)) ∧ (decode cL_law 1098 = .ok (.iload_n 3, 1)) ∧ (decode cL_law 1099 = .ok (.iconst 3, 1)) ∧ (decode cL_law 1100 = .ok (.iadd, 1)) := by decide +kernel
theorem dL_law_1093 : decode cL_law 1093 = .ok (.iload_n 3, 1) := dcL_768.1
theorem dL_law_1094 : decode cL_law 1094 = .ok (.iconst 2, 1) := dcL_768.2.1
theorem dL_law_1095 : decode cL_law 1095 = .ok (.iadd, 1) := dcL_768.2.2.1
theorem dL_law_1096 : decode cL_law 1096 = .ok (.iaload, 1) := dcL_768.2.2.2.1
theorem dL_law_1097 : decode cL_law 1097 = .ok (.aload_n 0, 1) := dcL_768.2.2.2.2.1
theorem dL_law_1098 : decode cL_law 1098 = .ok (.iload_n 3, 1) := dcL_768.2.2.2.2.2.1
theorem dL_law_1099 : decode cL_law 1099 = .ok (.iconst 3, 1) := dcL_768.2.2.2.2.2.2.1
theorem dL_law_1100 : decode cL_law 1100 = .ok (.iadd, 1) := dcL_768.2.2.2.2.2.2.2
theorem dcL_776 : (decode cL_law 1101 = .ok (.iaload, 1)) ∧ (decode cL_law 1102 = .ok (.aload_n 0, 1)) ∧ (decode cL_law 1103 = .ok (.iload_n 3, 1)) ∧ (decode cL_law 1104 = .ok (.iconst 4, 1)) ∧ (decode cL_law 1105 = .ok (.iadd, 1)) ∧ (decode cL_law 1106 = .ok (.iaload, 1)) ∧ (decode cL_law 1107 = .ok (.invokevirtual 118, 3)) ∧ (decode cL_law 1110 = .ok (.pop, 1)) := by decide +kernel
theorem dL_law_1101 : decode cL_law 1101 = .ok (.iaload, 1) := dcL_776.1
theorem dL_law_1102 : decode cL_law 1102 = .ok (.aload_n 0, 1) := dcL_776.2.1
theorem dL_law_1103 : decode cL_law 1103 = .ok (.iload_n 3, 1) := dcL_776.2.2.1
theorem dL_law_1104 : decode cL_law 1104 = .ok (.iconst 4, 1) := dcL_776.2.2.2.1
theorem dL_law_1105 : decode cL_law 1105 = .ok (.iadd, 1) := dcL_776.2.2.2.2.1
theorem dL_law_1106 : decode cL_law 1106 = .ok (.iaload, 1) := dcL_776.2.2.2.2.2.1
theorem dL_law_1107 : decode cL_law 1107 = .ok (.invokevirtual 118, 3) := dcL_776.2.2.2.2.2.2.1
theorem dL_law_1110 : decode cL_law 1110 = .ok (.pop, 1) := dcL_776.2.2.2.2.2.2.2
theorem dcL_784 : (decode cL_law 1111 = .ok (.aload_n 2, 1)) ∧ (decode cL_law 1112 = .ok (.aload_n 0, 1)) ∧ (decode cL_law 1113 = .ok (.iload_n 3, 1)) ∧ (decode cL_law 1114 = .ok (.iconst 1, 1)) ∧ (decode cL_law 1115 = .ok (.iadd, 1)) ∧ (decode cL_law 1116 = .ok (.iaload, 1)) ∧ (decode cL_law 1117 = .ok (.aload_n 0, 1)) ∧ (decode cL_law 1118 = .ok (.iload_n 3, 1)) := by decide +kernel
theorem dL_law_1111 : decode cL_law 1111 = .ok (.aload_n 2, 1) := dcL_784.1
theorem dL_law_1112 : decode cL_law 1112 = .ok (.aload_n 0, 1) := dcL_784.2.1
theorem dL_law_1113 : decode cL_law 1113 = .ok (.iload_n 3, 1) := dcL_784.2.2.1
theorem dL_law_1114 : decode cL_law 1114 = .ok (.iconst 1, 1) := dcL_784.2.2.2.1
theorem dL_law_1115 : decode cL_law 1115 = .ok (.iadd, 1) := dcL_784.2.2.2.2.1
theorem dL_law_1116 : decode cL_law 1116 = .ok (.iaload, 1) := dcL_784.2.2.2.2.2.1
theorem dL_law_1117 : decode cL_law 1117 = .ok (.aload_n 0, 1) := dcL_784.2.2.2.2.2.2.1
theorem dL_law_1118 : decode cL_law 1118 = .ok (.iload_n 3, 1) := dcL_784.2.2.2.2.2.2.2
theorem dcL_792 : (decode cL_law 1119 = .ok (.iconst 2, 1)) ∧ (decode cL_law 1120 = .ok (.iadd, 1)) ∧ (decode cL_law 1121 = .ok (.iaload, 1)) ∧ (decode cL_law 1122 = .ok (.aload_n 0, 1)) ∧ (decode cL_law 1123 = .ok (.iload_n 3, 1)) ∧ (decode cL_law 1124 = .ok (.iconst 3, 1)) ∧ (decode cL_law 1125 = .ok (.iadd, 1)) ∧ (decode cL_law 1126 = .ok (.iaload, 1)) := by decide +kernel
theorem dL_law_1119 : decode cL_law 1119 = .ok (.iconst 2, 1) := dcL_792.1
theorem dL_law_1120 : decode cL_law 1120 = .ok (.iadd, 1) := dcL_792.2.1
theorem dL_law_1121 : decode cL_law 1121 = .ok (.iaload, 1) := dcL_792.2.2.1
theorem dL_law_1122 : decode cL_law 1122 = .ok (.aload_n 0, 1) := dcL_792.2.2.2.1
theorem dL_law_1123 : decode cL_law 1123 = .ok (.iload_n 3, 1) := dcL_792.2.2.2.2.1
theorem dL_law_1124 : decode cL_law 1124 = .ok (.iconst 3, 1) := dcL_792.2.2.2.2.2.1
theorem dL_law_1125 : decode cL_law 1125 = .ok (.iadd, 1) := dcL_792.2.2.2.2.2.2.1
theorem dL_law_1126 : decode cL_law 1126 = .ok (.iaload, 1) := dcL_792.2.2.2.2.2.2.2
theorem dcL_800 : (decode cL_law 1127 = .ok (.aload_n 0, 1)) ∧ (decode cL_law 1128 = .ok (.iload_n 3, 1)) ∧ (decode cL_law 1129 = .ok (.iconst 4, 1)) ∧ (decode cL_law 1130 = .ok (.iadd, 1)) ∧ (decode cL_law 1131 = .ok (.iaload, 1)) ∧ (decode cL_law 1132 = .ok (.invokevirtual 121, 3)) ∧ (decode cL_law 1135 = .ok (.pop, 1)) ∧ (decode cL_law 1136 = .ok (.goto 323, 3)) := by decide +kernel
theorem dL_law_1127 : decode cL_law 1127 = .ok (.aload_n 0, 1) := dcL_800.1
theorem dL_law_1128 : decode cL_law 1128 = .ok (.iload_n 3, 1) := dcL_800.2.1
theorem dL_law_1129 : decode cL_law 1129 = .ok (.iconst 4, 1) := dcL_800.2.2.1
theorem dL_law_1130 : decode cL_law 1130 = .ok (.iadd, 1) := dcL_800.2.2.2.1
theorem dL_law_1131 : decode cL_law 1131 = .ok (.iaload, 1) := dcL_800.2.2.2.2.1
theorem dL_law_1132 : decode cL_law 1132 = .ok (.invokevirtual 121, 3) := dcL_800.2.2.2.2.2.1
theorem dL_law_1135 : decode cL_law 1135 = .ok (.pop, 1) := dcL_800.2.2.2.2.2.2.1
theorem dL_law_1136 : decode cL_law 1136 = .ok (.goto 323, 3) := dcL_800.2.2.2.2.2.2.2
theorem dcL_808 : (decode cL_law 1139 = .ok (.aload_n 1, 1)) ∧ (decode cL_law 1140 = .ok (.aload_n 0, 1)) ∧ (decode cL_law 1141 = .ok (.iload_n 3, 1)) ∧ (decode cL_law 1142 = .ok (.iconst 1, 1)) ∧ (decode cL_law 1143 = .ok (.iadd, 1)) ∧ (decode cL_law 1144 = .ok (.iaload, 1)) ∧ (decode cL_law 1145 = .ok (.invokevirtual 122, 3)) ∧ (decode cL_law 1148 = .ok (.pop, 1)) := by decide +kernel
theorem dL_law_1139 : decode cL_law 1139 = .ok (.aload_n 1, 1) := dcL_808.1
theorem dL_law_1140 : decode cL_law 1140 = .ok (.aload_n 0, 1) := dcL_808.2.1
theorem dL_law_1141 : decode cL_law 1141 = .ok (.iload_n 3, 1) := dcL_808.2.2.1
theorem dL_law_1142 : decode cL_law 1142 = .ok (.iconst 1, 1) := dcL_808.2.2.2.1
theorem dL_law_1143 : decode cL_law 1143 = .ok (.iadd, 1) := dcL_808.2.2.2.2.1
theorem dL_law_1144 : decode cL_law 1144 = .ok (.iaload, 1) := dcL_808.2.2.2.2.2.1
theorem dL_law_1145 : decode cL_law 1145 = .ok (.invokevirtual 122, 3) := dcL_808.2.2.2.2.2.2.1
theorem dL_law_1148 : decode cL_law 1148 = .ok (.pop, 1) := dcL_808.2.2.2.2.2.2.2
theorem dcL_816 : (decode cL_law 1149 = .ok (.aload_n 2, 1)) ∧ (decode cL_law 1150 = .ok (.aload_n 0, 1)) ∧ (decode cL_law 1151 = .ok (.iload_n 3, 1)) ∧ (decode cL_law 1152 = .ok (.iconst 1, 1)) ∧ (decode cL_law 1153 = .ok (.iadd, 1)) ∧ (decode cL_law 1154 = .ok (.iaload, 1)) ∧ (decode cL_law 1155 = .ok (.invokevirtual 125, 3)) ∧ (decode cL_law 1158 = .ok (.pop, 1)) := by decide +kernel
theorem dL_law_1149 : decode cL_law 1149 = .ok (.aload_n 2, 1) := dcL_816.1
theorem dL_law_1150 : decode cL_law 1150 = .ok (.aload_n 0, 1) := dcL_816.2.1
theorem dL_law_1151 : decode cL_law 1151 = .ok (.iload_n 3, 1) := dcL_816.2.2.1
theorem dL_law_1152 : decode cL_law 1152 = .ok (.iconst 1, 1) := dcL_816.2.2.2.1
theorem dL_law_1153 : decode cL_law 1153 = .ok (.iadd, 1) := dcL_816.2.2.2.2.1
theorem dL_law_1154 : decode cL_law 1154 = .ok (.iaload, 1) := dcL_816.2.2.2.2.2.1
theorem dL_law_1155 : decode cL_law 1155 = .ok (.invokevirtual 125, 3) := dcL_816.2.2.2.2.2.2.1
theorem dL_law_1158 : decode cL_law 1158 = .ok (.pop, 1) := dcL_816.2.2.2.2.2.2.2
theorem dcL_824 : (decode cL_law 1159 = .ok (.goto 300, 3)) ∧ (decode cL_law 1162 = .ok (.aload_n 1, 1)) ∧ (decode cL_law 1163 = .ok (.aload_n 0, 1)) ∧ (decode cL_law 1164 = .ok (.iload_n 3, 1)) ∧ (decode cL_law 1165 = .ok (.iconst 1, 1)) ∧ (decode cL_law 1166 = .ok (.iadd, 1)) ∧ (decode cL_law 1167 = .ok (.iaload, 1)) ∧ (decode cL_law 1168 = .ok (.aload_n 0, 1)) := by decide +kernel
theorem dL_law_1159 : decode cL_law 1159 = .ok (.goto 300, 3) := dcL_824.1
theorem dL_law_1162 : decode cL_law 1162 = .ok (.aload_n 1, 1) := dcL_824.2.1
theorem dL_law_1163 : decode cL_law 1163 = .ok (.aload_n 0, 1) := dcL_824.2.2.1
theorem dL_law_1164 : decode cL_law 1164 = .ok (.iload_n 3, 1) := dcL_824.2.2.2.1
theorem dL_law_1165 : decode cL_law 1165 = .ok (.iconst 1, 1) := dcL_824.2.2.2.2.1
theorem dL_law_1166 : decode cL_law 1166 = .ok (.iadd, 1) := dcL_824.2.2.2.2.2.1
theorem dL_law_1167 : decode cL_law 1167 = .ok (.iaload, 1) := dcL_824.2.2.2.2.2.2.1
theorem dL_law_1168 : decode cL_law 1168 = .ok (.aload_n 0, 1) := dcL_824.2.2.2.2.2.2.2
theorem dcL_832 : (decode cL_law 1169 = .ok (.iload_n 3, 1)) ∧ (decode cL_law 1170 = .ok (.iconst 2, 1)) ∧ (decode cL_law 1171 = .ok (.iadd, 1)) ∧ (decode cL_law 1172 = .ok (.iaload, 1)) ∧ (decode cL_law 1173 = .ok (.invokevirtual 126, 3)) ∧ (decode cL_law 1176 = .ok (.pop, 1)) ∧ (decode cL_law 1177 = .ok (.aload_n 2, 1)) ∧ (decode cL_law 1178 = .ok (.aload_n 0, 1)) := by decide +kernel
theorem dL_law_1169 : decode cL_law 1169 = .ok (.iload_n 3, 1) := dcL_832.1
theorem dL_law_1170 : decode cL_law 1170 = .ok (.iconst 2, 1) := dcL_832.2.1
theorem dL_law_1171 : decode cL_law 1171 = .ok (.iadd, 1) := dcL_832.2.2.1
theorem dL_law_1172 : decode cL_law 1172 = .ok (.iaload, 1) := dcL_832.2.2.2.1
theorem dL_law_1173 : decode cL_law 1173 = .ok (.invokevirtual 126, 3) := dcL_832.2.2.2.2.1
theorem dL_law_1176 : decode cL_law 1176 = .ok (.pop, 1) := dcL_832.2.2.2.2.2.1
theorem dL_law_1177 : decode cL_law 1177 = .ok (.aload_n 2, 1) := dcL_832.2.2.2.2.2.2.1
theorem dL_law_1178 : decode cL_law 1178 = .ok (.aload_n 0, 1) := dcL_832.2.2.2.2.2.2.2
theorem dcL_840 : (decode cL_law 1179 = .ok (.iload_n 3, 1)) ∧ (decode cL_law 1180 = .ok (.iconst 1, 1)) ∧ (decode cL_law 1181 = .ok (.iadd, 1)) ∧ (decode cL_law 1182 = .ok (.iaload, 1)) ∧ (decode cL_law 1183 = .ok (.aload_n 0, 1)) ∧ (decode cL_law 1184 = .ok (.iload_n 3, 1)) ∧ (decode cL_law 1185 = .ok (.iconst 2, 1)) ∧ (decode cL_law 1186 = .ok (.iadd, 1)) := by decide +kernel
theorem dL_law_1179 : decode cL_law 1179 = .ok (.iload_n 3, 1) := dcL_840.1
theorem dL_law_1180 : decode cL_law 1180 = .ok (.iconst 1, 1) := dcL_840.2.1
theorem dL_law_1181 : decode cL_law 1181 = .ok (.iadd, 1) := dcL_840.2.2.1
theorem dL_law_1182 : decode cL_law 1182 = .ok (.iaload, 1) := dcL_840.2.2.2.1
theorem dL_law_1183 : decode cL_law 1183 = .ok (.aload_n 0, 1) := dcL_840.2.2.2.2.1
theorem dL_law_1184 : decode cL_law 1184 = .ok (.iload_n 3, 1) := dcL_840.2.2.2.2.2.1
theorem dL_law_1185 : decode cL_law 1185 = .ok (.iconst 2, 1) := dcL_840.2.2.2.2.2.2.1
theorem dL_law_1186 : decode cL_law 1186 = .ok (.iadd, 1) := dcL_840.2.2.2.2.2.2.2
theorem dcL_848 : (decode cL_law 1187 = .ok (.iaload, 1)) ∧ (decode cL_law 1188 = .ok (.invokevirtual 129, 3)) ∧ (decode cL_law 1191 = .ok (.pop, 1)) ∧ (decode cL_law 1192 = .ok (.goto 267, 3)) ∧ (decode cL_law 1195 = .ok (.aload_n 1, 1)) ∧ (decode cL_law 1196 = .ok (.aload_n 0, 1)) ∧ (decode cL_law 1197 = .ok (.iload_n 3, 1)) ∧ (decode cL_law 1198 = .ok (.iconst 1, 1)) := by decide +kernel
theorem dL_law_1187 : decode cL_law 1187 = .ok (.iaload, 1) := dcL_848.1
theorem dL_law_1188 : decode cL_law 1188 = .ok (.invokevirtual 129, 3) := dcL_848.2.1
theorem dL_law_1191 : decode cL_law 1191 = .ok (.pop, 1) := dcL_848.2.2.1
theorem dL_law_1192 : decode cL_law 1192 = .ok (.goto 267, 3) := dcL_848.2.2.2.1
theorem dL_law_1195 : decode cL_law 1195 = .ok (.aload_n 1, 1) := dcL_848.2.2.2.2.1
theorem dL_law_1196 : decode cL_law 1196 = .ok (.aload_n 0, 1) := dcL_848.2.2.2.2.2.1
theorem dL_law_1197 : decode cL_law 1197 = .ok (.iload_n 3, 1) := dcL_848.2.2.2.2.2.2.1
theorem dL_law_1198 : decode cL_law 1198 = .ok (.iconst 1, 1) := dcL_848.2.2.2.2.2.2.2
theorem dcL_856 : (decode cL_law 1199 = .ok (.iadd, 1)) ∧ (decode cL_law 1200 = .ok (.iaload, 1)) ∧ (decode cL_law 1201 = .ok (.aload_n 0, 1)) ∧ (decode cL_law 1202 = .ok (.iload_n 3, 1)) ∧ (decode cL_law 1203 = .ok (.iconst 2, 1)) ∧ (decode cL_law 1204 = .ok (.iadd, 1)) ∧ (decode cL_law 1205 = .ok (.iaload, 1)) ∧ (decode cL_law 1206 = .ok (.invokevirtual 130, 3)) := by decide +kernel
theorem dL_law_1199 : decode cL_law 1199 = .ok (.iadd, 1) := dcL_856.1
theorem dL_law_1200 : decode cL_law 1200 = .ok (.iaload, 1) := dcL_856.2.1
theorem dL_law_1201 : decode cL_law 1201 = .ok (.aload_n 0, 1) := dcL_856.2.2.1
theorem dL_law_1202 : decode cL_law 1202 = .ok (.iload_n 3, 1) := dcL_856.2.2.2.1
theorem dL_law_1203 : decode cL_law 1203 = .ok (.iconst 2, 1) := dcL_856.2.2.2.2.1
theorem dL_law_1204 : decode cL_law 1204 = .ok (.iadd, 1) := dcL_856.2.2.2.2.2.1
theorem dL_law_1205 : decode cL_law 1205 = .ok (.iaload, 1) := dcL_856.2.2.2.2.2.2.1
theorem dL_law_1206 : decode cL_law 1206 = .ok (.invokevirtual 130, 3) := dcL_856.2.2.2.2.2.2.2
theorem dcL_864 : (decode cL_law 1209 = .ok (.pop, 1)) ∧ (decode cL_law 1210 = .ok (.aload_n 2, 1)) ∧ (decode cL_law 1211 = .ok (.aload_n 0, 1)) ∧ (decode cL_law 1212 = .ok (.iload_n 3, 1)) ∧ (decode cL_law 1213 = .ok (.iconst 1, 1)) ∧ (decode cL_law 1214 = .ok (.iadd, 1)) ∧ (decode cL_law 1215 = .ok (.iaload, 1)) ∧ (decode cL_law 1216 = .ok (.aload_n 0, 1)) := by decide +kernel
theorem dL_law_1209 : decode cL_law 1209 = .ok (.pop, 1) := dcL_864.1
theorem dL_law_1210 : decode cL_law 1210 = .ok (.aload_n 2, 1) := dcL_864.2.1
theorem dL_law_1211 : decode cL_law 1211 = .ok (.aload_n 0, 1) := dcL_864.2.2.1
theorem dL_law_1212 : decode cL_law 1212 = .ok (.iload_n 3, 1) := dcL_864.2.2.2.1
theorem dL_law_1213 : decode cL_law 1213 = .ok (.iconst 1, 1) := dcL_864.2.2.2.2.1
theorem dL_law_1214 : decode cL_law 1214 = .ok (.iadd, 1) := dcL_864.2.2.2.2.2.1
theorem dL_law_1215 : decode cL_law 1215 = .ok (.iaload, 1) := dcL_864.2.2.2.2.2.2.1
theorem dL_law_1216 : decode cL_law 1216 = .ok (.aload_n 0, 1) := dcL_864.2.2.2.2.2.2.2
theorem dcL_872 : (decode cL_law 1217 = .ok (.iload_n 3, 1)) ∧ (decode cL_law 1218 = .ok (.iconst 2, 1)) ∧ (decode cL_law 1219 = .ok (.iadd, 1)) ∧ (decode cL_law 1220 = .ok (.iaload, 1)) ∧ (decode cL_law 1221 = .ok (.invokevirtual 133, 3)) ∧ (decode cL_law 1224 = .ok (.pop, 1)) ∧ (decode cL_law 1225 = .ok (.goto 234, 3)) ∧ (decode cL_law 1228 = .ok (.aload_n 1, 1)) := by decide +kernel
theorem dL_law_1217 : decode cL_law 1217 = .ok (.iload_n 3, 1) := dcL_872.1
theorem dL_law_1218 : decode cL_law 1218 = .ok (.iconst 2, 1) := dcL_872.2.1
theorem dL_law_1219 : decode cL_law 1219 = .ok (.iadd, 1) := dcL_872.2.2.1
theorem dL_law_1220 : decode cL_law 1220 = .ok (.iaload, 1) := dcL_872.2.2.2.1
theorem dL_law_1221 : decode cL_law 1221 = .ok (.invokevirtual 133, 3) := dcL_872.2.2.2.2.1
theorem dL_law_1224 : decode cL_law 1224 = .ok (.pop, 1) := dcL_872.2.2.2.2.2.1
theorem dL_law_1225 : decode cL_law 1225 = .ok (.goto 234, 3) := dcL_872.2.2.2.2.2.2.1
theorem dL_law_1228 : decode cL_law 1228 = .ok (.aload_n 1, 1) := dcL_872.2.2.2.2.2.2.2
theorem dcL_880 : (decode cL_law 1229 = .ok (.aload_n 0, 1)) ∧ (decode cL_law 1230 = .ok (.iload_n 3, 1)) ∧ (decode cL_law 1231 = .ok (.iconst 1, 1)) ∧ (decode cL_law 1232 = .ok (.iadd, 1)) ∧ (decode cL_law 1233 = .ok (.iaload, 1)) ∧ (decode cL_law 1234 = .ok (.invokevirtual 134, 3)) ∧ (decode cL_law 1237 = .ok (.pop, 1)) ∧ (decode cL_law 1238 = .ok (.aload_n 2, 1)) := by decide +kernel
theorem dL_law_1229 : decode cL_law 1229 = .ok (.aload_n 0, 1) := dcL_880.1
theorem dL_law_1230 : decode cL_law 1230 = .ok (.iload_n 3, 1) := dcL_880.2.1
theorem dL_law_1231 : decode cL_law 1231 = .ok (.iconst 1, 1) := dcL_880.2.2.1
theorem dL_law_1232 : decode cL_law 1232 = .ok (.iadd, 1) := dcL_880.2.2.2.1
theorem dL_law_1233 : decode cL_law 1233 = .ok (.iaload, 1) := dcL_880.2.2.2.2.1
theorem dL_law_1234 : decode cL_law 1234 = .ok (.invokevirtual 134, 3) := dcL_880.2.2.2.2.2.1
theorem dL_law_1237 : decode cL_law 1237 = .ok (.pop, 1) := dcL_880.2.2.2.2.2.2.1
theorem dL_law_1238 : decode cL_law 1238 = .ok (.aload_n 2, 1) := dcL_880.2.2.2.2.2.2.2
theorem dcL_888 : (decode cL_law 1239 = .ok (.aload_n 0, 1)) ∧ (decode cL_law 1240 = .ok (.iload_n 3, 1)) ∧ (decode cL_law 1241 = .ok (.iconst 1, 1)) ∧ (decode cL_law 1242 = .ok (.iadd, 1)) ∧ (decode cL_law 1243 = .ok (.iaload, 1)) ∧ (decode cL_law 1244 = .ok (.invokevirtual 137, 3)) ∧ (decode cL_law 1247 = .ok (.pop, 1)) ∧ (decode cL_law 1248 = .ok (.goto 211, 3)) := by decide +kernel
theorem dL_law_1239 : decode cL_law 1239 = .ok (.aload_n 0, 1) := dcL_888.1
theorem dL_law_1240 : decode cL_law 1240 = .ok (.iload_n 3, 1) := dcL_888.2.1
theorem dL_law_1241 : decode cL_law 1241 = .ok (.iconst 1, 1) := dcL_888.2.2.1
theorem dL_law_1242 : decode cL_law 1242 = .ok (.iadd, 1) := dcL_888.2.2.2.1
theorem dL_law_1243 : decode cL_law 1243 = .ok (.iaload, 1) := dcL_888.2.2.2.2.1
theorem dL_law_1244 : decode cL_law 1244 = .ok (.invokevirtual 137, 3) := dcL_888.2.2.2.2.2.1
theorem dL_law_1247 : decode cL_law 1247 = .ok (.pop, 1) := dcL_888.2.2.2.2.2.2.1
theorem dL_law_1248 : decode cL_law 1248 = .ok (.goto 211, 3) := dcL_888.2.2.2.2.2.2.2
theorem dcL_896 : (decode cL_law 1251 = .ok (.aload_n 1, 1)) ∧ (decode cL_law 1252 = .ok (.aload_n 0, 1)) ∧ (decode cL_law 1253 = .ok (.iload_n 3, 1)) ∧ (decode cL_law 1254 = .ok (.iconst 1, 1)) ∧ (decode cL_law 1255 = .ok (.iadd, 1)) ∧ (decode cL_law 1256 = .ok (.iaload, 1)) ∧ (decode cL_law 1257 = .ok (.aload_n 0, 1)) ∧ (decode cL_law 1258 = .ok (.iload_n 3, 1)) := by decide +kernel
theorem dL_law_1251 : decode cL_law 1251 = .ok (.aload_n 1, 1) := dcL_896.1
theorem dL_law_1252 : decode cL_law 1252 = .ok (.aload_n 0, 1) := dcL_896.2.1
theorem dL_law_1253 : decode cL_law 1253 = .ok (.iload_n 3, 1) := dcL_896.2.2.1
theorem dL_law_1254 : decode cL_law 1254 = .ok (.iconst 1, 1) := dcL_896.2.2.2.1
theorem dL_law_1255 : decode cL_law 1255 = .ok (.iadd, 1) := dcL_896.2.2.2.2.1
theorem dL_law_1256 : decode cL_law 1256 = .ok (.iaload, 1) := dcL_896.2.2.2.2.2.1
theorem dL_law_1257 : decode cL_law 1257 = .ok (.aload_n 0, 1) := dcL_896.2.2.2.2.2.2.1
theorem dL_law_1258 : decode cL_law 1258 = .ok (.iload_n 3, 1) := dcL_896.2.2.2.2.2.2.2
theorem dcL_904 : (decode cL_law 1259 = .ok (.iconst 2, 1)) ∧ (decode cL_law 1260 = .ok (.iadd, 1)) ∧ (decode cL_law 1261 = .ok (.iaload, 1)) ∧ (decode cL_law 1262 = .ok (.invokevirtual 138, 3)) ∧ (decode cL_law 1265 = .ok (.pop, 1)) ∧ (decode cL_law 1266 = .ok (.aload_n 2, 1)) ∧ (decode cL_law 1267 = .ok (.aload_n 0, 1)) ∧ (decode cL_law 1268 = .ok (.iload_n 3, 1)) := by decide +kernel
theorem dL_law_1259 : decode cL_law 1259 = .ok (.iconst 2, 1) := dcL_904.1
theorem dL_law_1260 : decode cL_law 1260 = .ok (.iadd, 1) := dcL_904.2.1
theorem dL_law_1261 : decode cL_law 1261 = .ok (.iaload, 1) := dcL_904.2.2.1
theorem dL_law_1262 : decode cL_law 1262 = .ok (.invokevirtual 138, 3) := dcL_904.2.2.2.1
theorem dL_law_1265 : decode cL_law 1265 = .ok (.pop, 1) := dcL_904.2.2.2.2.1
theorem dL_law_1266 : decode cL_law 1266 = .ok (.aload_n 2, 1) := dcL_904.2.2.2.2.2.1
theorem dL_law_1267 : decode cL_law 1267 = .ok (.aload_n 0, 1) := dcL_904.2.2.2.2.2.2.1
theorem dL_law_1268 : decode cL_law 1268 = .ok (.iload_n 3, 1) := dcL_904.2.2.2.2.2.2.2
theorem dcL_912 : (decode cL_law 1269 = .ok (.iconst 1, 1)) ∧ (decode cL_law 1270 = .ok (.iadd, 1)) ∧ (decode cL_law 1271 = .ok (.iaload, 1)) ∧ (decode cL_law 1272 = .ok (.aload_n 0, 1)) ∧ (decode cL_law 1273 = .ok (.iload_n 3, 1)) ∧ (decode cL_law 1274 = .ok (.iconst 2, 1)) ∧ (decode cL_law 1275 = .ok (.iadd, 1)) ∧ (decode cL_law 1276 = .ok (.iaload, 1)) := by decide +kernel
theorem dL_law_1269 : decode cL_law 1269 = .ok (.iconst 1, 1) := dcL_912.1
theorem dL_law_1270 : decode cL_law 1270 = .ok (.iadd, 1) := dcL_912.2.1
theorem dL_law_1271 : decode cL_law 1271 = .ok (.iaload, 1) := dcL_912.2.2.1
theorem dL_law_1272 : decode cL_law 1272 = .ok (.aload_n 0, 1) := dcL_912.2.2.2.1
theorem dL_law_1273 : decode cL_law 1273 = .ok (.iload_n 3, 1) := dcL_912.2.2.2.2.1
theorem dL_law_1274 : decode cL_law 1274 = .ok (.iconst 2, 1) := dcL_912.2.2.2.2.2.1
theorem dL_law_1275 : decode cL_law 1275 = .ok (.iadd, 1) := dcL_912.2.2.2.2.2.2.1
theorem dL_law_1276 : decode cL_law 1276 = .ok (.iaload, 1) := dcL_912.2.2.2.2.2.2.2
theorem dcL_920 : (decode cL_law 1277 = .ok (.invokevirtual 141, 3)) ∧ (decode cL_law 1280 = .ok (.pop, 1)) ∧ (decode cL_law 1281 = .ok (.goto 178, 3)) ∧ (decode cL_law 1284 = .ok (.aload_n 1, 1)) ∧ (decode cL_law 1285 = .ok (.aload_n 0, 1)) ∧ (decode cL_law 1286 = .ok (.iload_n 3, 1)) ∧ (decode cL_law 1287 = .ok (.iconst 1, 1)) ∧ (decode cL_law 1288 = .ok (.iadd, 1)) := by decide +kernel
theorem dL_law_1277 : decode cL_law 1277 = .ok (.invokevirtual 141, 3) := dcL_920.1
theorem dL_law_1280 : decode cL_law 1280 = .ok (.pop, 1) := dcL_920.2.1
theorem dL_law_1281 : decode cL_law 1281 = .ok (.goto 178, 3) := dcL_920.2.2.1
theorem dL_law_1284 : decode cL_law 1284 = .ok (.aload_n 1, 1) := dcL_920.2.2.2.1
theorem dL_law_1285 : decode cL_law 1285 = .ok (.aload_n 0, 1) := dcL_920.2.2.2.2.1
theorem dL_law_1286 : decode cL_law 1286 = .ok (.iload_n 3, 1) := dcL_920.2.2.2.2.2.1
theorem dL_law_1287 : decode cL_law 1287 = .ok (.iconst 1, 1) := dcL_920.2.2.2.2.2.2.1
theorem dL_law_1288 : decode cL_law 1288 = .ok (.iadd, 1) := dcL_920.2.2.2.2.2.2.2
theorem dcL_928 : (decode cL_law 1289 = .ok (.iaload, 1)) ∧ (decode cL_law 1290 = .ok (.invokevirtual 142, 3)) ∧ (decode cL_law 1293 = .ok (.pop, 1)) ∧ (decode cL_law 1294 = .ok (.aload_n 2, 1)) ∧ (decode cL_law 1295 = .ok (.aload_n 0, 1)) ∧ (decode cL_law 1296 = .ok (.iload_n 3, 1)) ∧ (decode cL_law 1297 = .ok (.iconst 1, 1)) ∧ (decode cL_law 1298 = .ok (.iadd, 1)) := by decide +kernel
theorem dL_law_1289 : decode cL_law 1289 = .ok (.iaload, 1) := dcL_928.1
theorem dL_law_1290 : decode cL_law 1290 = .ok (.invokevirtual 142, 3) := dcL_928.2.1
theorem dL_law_1293 : decode cL_law 1293 = .ok (.pop, 1) := dcL_928.2.2.1
theorem dL_law_1294 : decode cL_law 1294 = .ok (.aload_n 2, 1) := dcL_928.2.2.2.1
theorem dL_law_1295 : decode cL_law 1295 = .ok (.aload_n 0, 1) := dcL_928.2.2.2.2.1
theorem dL_law_1296 : decode cL_law 1296 = .ok (.iload_n 3, 1) := dcL_928.2.2.2.2.2.1
theorem dL_law_1297 : decode cL_law 1297 = .ok (.iconst 1, 1) := dcL_928.2.2.2.2.2.2.1
theorem dL_law_1298 : decode cL_law 1298 = .ok (.iadd, 1) := dcL_928.2.2.2.2.2.2.2
theorem dcL_936 : (decode cL_law 1299 = .ok (.iaload, 1)) ∧ (decode cL_law 1300 = .ok (.invokevirtual 145, 3)) ∧ (decode cL_law 1303 = .ok (.pop, 1)) ∧ (decode cL_law 1304 = .ok (.goto 155, 3)) ∧ (decode cL_law 1307 = .ok (.aload_n 1, 1)) ∧ (decode cL_law 1308 = .ok (.aload_n 0, 1)) ∧ (decode cL_law 1309 = .ok (.iload_n 3, 1)) ∧ (decode cL_law 1310 = .ok (.iconst 1, 1)) := by decide +kernel
theorem dL_law_1299 : decode cL_law 1299 = .ok (.iaload, 1) := dcL_936.1
theorem dL_law_1300 : decode cL_law 1300 = .ok (.invokevirtual 145, 3) := dcL_936.2.1
theorem dL_law_1303 : decode cL_law 1303 = .ok (.pop, 1) := dcL_936.2.2.1
theorem dL_law_1304 : decode cL_law 1304 = .ok (.goto 155, 3) := dcL_936.2.2.2.1
theorem dL_law_1307 : decode cL_law 1307 = .ok (.aload_n 1, 1) := dcL_936.2.2.2.2.1
theorem dL_law_1308 : decode cL_law 1308 = .ok (.aload_n 0, 1) := dcL_936.2.2.2.2.2.1
theorem dL_law_1309 : decode cL_law 1309 = .ok (.iload_n 3, 1) := dcL_936.2.2.2.2.2.2.1
theorem dL_law_1310 : decode cL_law 1310 = .ok (.iconst 1, 1) := dcL_936.2.2.2.2.2.2.2
theorem dcL_944 : (decode cL_law 1311 = .ok (.iadd, 1)) ∧ (decode cL_law 1312 = .ok (.iaload, 1)) ∧ (decode cL_law 1313 = .ok (.aload_n 0, 1)) ∧ (decode cL_law 1314 = .ok (.iload_n 3, 1)) ∧ (decode cL_law 1315 = .ok (.iconst 2, 1)) ∧ (decode cL_law 1316 = .ok (.iadd, 1)) ∧ (decode cL_law 1317 = .ok (.iaload, 1)) ∧ (decode cL_law 1318 = .ok (.invokevirtual 146, 3)) := by decide +kernel
theorem dL_law_1311 : decode cL_law 1311 = .ok (.iadd, 1) := dcL_944.1
theorem dL_law_1312 : decode cL_law 1312 = .ok (.iaload, 1) := dcL_944.2.1
theorem dL_law_1313 : decode cL_law 1313 = .ok (.aload_n 0, 1) := dcL_944.2.2.1
theorem dL_law_1314 : decode cL_law 1314 = .ok (.iload_n 3, 1) := dcL_944.2.2.2.1
theorem dL_law_1315 : decode cL_law 1315 = .ok (.iconst 2, 1) := dcL_944.2.2.2.2.1
theorem dL_law_1316 : decode cL_law 1316 = .ok (.iadd, 1) := dcL_944.2.2.2.2.2.1
theorem dL_law_1317 : decode cL_law 1317 = .ok (.iaload, 1) := dcL_944.2.2.2.2.2.2.1
theorem dL_law_1318 : decode cL_law 1318 = .ok (.invokevirtual 146, 3) := dcL_944.2.2.2.2.2.2.2
theorem dcL_952 : (decode cL_law 1321 = .ok (.pop, 1)) ∧ (decode cL_law 1322 = .ok (.aload_n 2, 1)) ∧ (decode cL_law 1323 = .ok (.aload_n 0, 1)) ∧ (decode cL_law 1324 = .ok (.iload_n 3, 1)) ∧ (decode cL_law 1325 = .ok (.iconst 1, 1)) ∧ (decode cL_law 1326 = .ok (.iadd, 1)) ∧ (decode cL_law 1327 = .ok (.iaload, 1)) ∧ (decode cL_law 1328 = .ok (.aload_n 0, 1)) := by decide +kernel
theorem dL_law_1321 : decode cL_law 1321 = .ok (.pop, 1) := dcL_952.1
theorem dL_law_1322 : decode cL_law 1322 = .ok (.aload_n 2, 1) := dcL_952.2.1
theorem dL_law_1323 : decode cL_law 1323 = .ok (.aload_n 0, 1) := dcL_952.2.2.1
theorem dL_law_1324 : decode cL_law 1324 = .ok (.iload_n 3, 1) := dcL_952.2.2.2.1
theorem dL_law_1325 : decode cL_law 1325 = .ok (.iconst 1, 1) := dcL_952.2.2.2.2.1
theorem dL_law_1326 : decode cL_law 1326 = .ok (.iadd, 1) := dcL_952.2.2.2.2.2.1
theorem dL_law_1327 : decode cL_law 1327 = .ok (.iaload, 1) := dcL_952.2.2.2.2.2.2.1
theorem dL_law_1328 : decode cL_law 1328 = .ok (.aload_n 0, 1) := dcL_952.2.2.2.2.2.2.2
theorem dcL_960 : (decode cL_law 1329 = .ok (.iload_n 3, 1)) ∧ (decode cL_law 1330 = .ok (.iconst 2, 1)) ∧ (decode cL_law 1331 = .ok (.iadd, 1)) ∧ (decode cL_law 1332 = .ok (.iaload, 1)) ∧ (decode cL_law 1333 = .ok (.invokevirtual 149, 3)) ∧ (decode cL_law 1336 = .ok (.pop, 1)) ∧ (decode cL_law 1337 = .ok (.goto 122, 3)) ∧ (decode cL_law 1340 = .ok (.aload_n 1, 1)) := by decide +kernel
theorem dL_law_1329 : decode cL_law 1329 = .ok (.iload_n 3, 1) := dcL_960.1
theorem dL_law_1330 : decode cL_law 1330 = .ok (.iconst 2, 1) := dcL_960.2.1
theorem dL_law_1331 : decode cL_law 1331 = .ok (.iadd, 1) := dcL_960.2.2.1
theorem dL_law_1332 : decode cL_law 1332 = .ok (.iaload, 1) := dcL_960.2.2.2.1
theorem dL_law_1333 : decode cL_law 1333 = .ok (.invokevirtual 149, 3) := dcL_960.2.2.2.2.1
theorem dL_law_1336 : decode cL_law 1336 = .ok (.pop, 1) := dcL_960.2.2.2.2.2.1
theorem dL_law_1337 : decode cL_law 1337 = .ok (.goto 122, 3) := dcL_960.2.2.2.2.2.2.1
theorem dL_law_1340 : decode cL_law 1340 = .ok (.aload_n 1, 1) := dcL_960.2.2.2.2.2.2.2
theorem dcL_968 : (decode cL_law 1341 = .ok (.aload_n 0, 1)) ∧ (decode cL_law 1342 = .ok (.iload_n 3, 1)) ∧ (decode cL_law 1343 = .ok (.iconst 1, 1)) ∧ (decode cL_law 1344 = .ok (.iadd, 1)) ∧ (decode cL_law 1345 = .ok (.iaload, 1)) ∧ (decode cL_law 1346 = .ok (.aload_n 0, 1)) ∧ (decode cL_law 1347 = .ok (.iload_n 3, 1)) ∧ (decode cL_law 1348 = .ok (.iconst 2, 1)) := by decide +kernel
theorem dL_law_1341 : decode cL_law 1341 = .ok (.aload_n 0, 1) := dcL_968.1
theorem dL_law_1342 : decode cL_law 1342 = .ok (.iload_n 3, 1) := dcL_968.2.1
theorem dL_law_1343 : decode cL_law 1343 = .ok (.iconst 1, 1) := dcL_968.2.2.1
theorem dL_law_1344 : decode cL_law 1344 = .ok (.iadd, 1) := dcL_968.2.2.2.1
theorem dL_law_1345 : decode cL_law 1345 = .ok (.iaload, 1) := dcL_968.2.2.2.2.1
theorem dL_law_1346 : decode cL_law 1346 = .ok (.aload_n 0, 1) := dcL_968.2.2.2.2.2.1
theorem dL_law_1347 : decode cL_law 1347 = .ok (.iload_n 3, 1) := dcL_968.2.2.2.2.2.2.1
theorem dL_law_1348 : decode cL_law 1348 = .ok (.iconst 2, 1) := dcL_968.2.2.2.2.2.2.2
theorem dcL_976 : (decode cL_law 1349 = .ok (.iadd, 1)) ∧ (decode cL_law 1350 = .ok (.iaload, 1)) ∧ (decode cL_law 1351 = .ok (.aload_n 0, 1)) ∧ (decode cL_law 1352 = .ok (.iload_n 3, 1)) ∧ (decode cL_law 1353 = .ok (.iconst 3, 1)) ∧ (decode cL_law 1354 = .ok (.iadd, 1)) ∧ (decode cL_law 1355 = .ok (.iaload, 1)) ∧ (decode cL_law 1356 = .ok (.invokevirtual 150, 3)) := by decide +kernel
theorem dL_law_1349 : decode cL_law 1349 = .ok (.iadd, 1) := dcL_976.1
theorem dL_law_1350 : decode cL_law 1350 = .ok (.iaload, 1) := dcL_976.2.1
theorem dL_law_1351 : decode cL_law 1351 = .ok (.aload_n 0, 1) := dcL_976.2.2.1
theorem dL_law_1352 : decode cL_law 1352 = .ok (.iload_n 3, 1) := dcL_976.2.2.2.1
theorem dL_law_1353 : decode cL_law 1353 = .ok (.iconst 3, 1) := dcL_976.2.2.2.2.1
theorem dL_law_1354 : decode cL_law 1354 = .ok (.iadd, 1) := dcL_976.2.2.2.2.2.1
theorem dL_law_1355 : decode cL_law 1355 = .ok (.iaload, 1) := dcL_976.2.2.2.2.2.2.1
theorem dL_law_1356 : decode cL_law 1356 = .ok (.invokevirtual 150, 3) := dcL_976.2.2.2.2.2.2.2
theorem dcL_984 : (decode cL_law 1359 = .ok (.pop, 1)) ∧ (decode cL_law 1360 = .ok (.aload_n 2, 1)) ∧ (decode cL_law 1361 = .ok (.aload_n 0, 1)) ∧ (decode cL_law 1362 = .ok (.iload_n 3, 1)) ∧ (decode cL_law 1363 = .ok (.iconst 1, 1)) ∧ (decode cL_law 1364 = .ok (.iadd, 1)) ∧ (decode cL_law 1365 = .ok (.iaload, 1)) ∧ (decode cL_law 1366 = .ok (.aload_n 0, 1)) := by decide +kernel
theorem dL_law_1359 : decode cL_law 1359 = .ok (.pop, 1) := dcL_984.1
theorem dL_law_1360 : decode cL_law 1360 = .ok (.aload_n 2, 1) := dcL_984.2.1
theorem dL_law_1361 : decode cL_law 1361 = .ok (.aload_n 0, 1) := dcL_984.2.2.1
theorem dL_law_1362 : decode cL_law 1362 = .ok (.iload_n 3, 1) := dcL_984.2.2.2.1
theorem dL_law_1363 : decode cL_law 1363 = .ok (.iconst 1, 1) := dcL_984.2.2.2.2.1
theorem dL_law_1364 : decode cL_law 1364 = .ok (.iadd, 1) := dcL_984.2.2.2.2.2.1
theorem dL_law_1365 : decode cL_law 1365 = .ok (.iaload, 1) := dcL_984.2.2.2.2.2.2.1
theorem dL_law_1366 : decode cL_law 1366 = .ok (.aload_n 0, 1) := dcL_984.2.2.2.2.2.2.2
theorem dcL_992 : (decode cL_law 1367 = .ok (.iload_n 3, 1)) ∧ (decode cL_law 1368 = .ok (.iconst 2, 1)) ∧ (decode cL_law 1369 = .ok (.iadd, 1)) ∧ (decode cL_law 1370 = .ok (.iaload, 1)) ∧ (decode cL_law 1371 = .ok (.aload_n 0, 1)) ∧ (decode cL_law 1372 = .ok (.iload_n 3, 1)) ∧ (decode cL_law 1373 = .ok (.iconst 3, 1)) ∧ (decode cL_law 1374 = .ok (.iadd, 1)) := by decide +kernel
theorem dL_law_1367 : decode cL_law 1367 = .ok (.iload_n 3, 1) := dcL_992.1
theorem dL_law_1368 : decode cL_law 1368 = .ok (.iconst 2, 1) := dcL_992.2.1
theorem dL_law_1369 : decode cL_law 1369 = .ok (.iadd, 1) := dcL_992.2.2.1
theorem dL_law_1370 : decode cL_law 1370 = .ok (.iaload, 1) := dcL_992.2.2.2.1
theorem dL_law_1371 : decode cL_law 1371 = .ok (.aload_n 0, 1) := dcL_992.2.2.2.2.1
theorem dL_law_1372 : decode cL_law 1372 = .ok (.iload_n 3, 1) := dcL_992.2.2.2.2.2.1
theorem dL_law_1373 : decode cL_law 1373 = .ok (.iconst 3, 1) := dcL_992.2.2.2.2.2.2.1
theorem dL_law_1374 : decode cL_law 1374 = .ok (.iadd, 1) := dcL_992.2.2.2.2.2.2.2
theorem dcL_1000 : (decode cL_law 1375 = .ok (.iaload, 1)) ∧ (decode cL_law 1376 = .ok (.invokevirtual 153, 3)) ∧ (decode cL_law 1379 = .ok (.pop, 1)) ∧ (decode cL_law 1380 = .ok (.goto 79, 3)) ∧ (decode cL_law 1383 = .ok (.aload_n 1, 1)) ∧ (decode cL_law 1384 = .ok (.aload_n 0, 1)) ∧ (decode cL_law 1385 = .ok (.iload_n 3, 1)) ∧ (decode cL_law 1386 = .ok (.iconst 1, 1)) := by decide +kernel
theorem dL_law_1375 : decode cL_law 1375 = .ok (.iaload, 1) := dcL_1000.1
theorem dL_law_1376 : decode cL_law 1376 = .ok (.invokevirtual 153, 3) := dcL_1000.2.1
theorem dL_law_1379 : decode cL_law 1379 = .ok (.pop, 1) := dcL_1000.2.2.1
theorem dL_law_1380 : decode cL_law 1380 = .ok (.goto 79, 3) := dcL_1000.2.2.2.1
theorem dL_law_1383 : decode cL_law 1383 = .ok (.aload_n 1, 1) := dcL_1000.2.2.2.2.1
theorem dL_law_1384 : decode cL_law 1384 = .ok (.aload_n 0, 1) := dcL_1000.2.2.2.2.2.1
theorem dL_law_1385 : decode cL_law 1385 = .ok (.iload_n 3, 1) := dcL_1000.2.2.2.2.2.2.1
theorem dL_law_1386 : decode cL_law 1386 = .ok (.iconst 1, 1) := dcL_1000.2.2.2.2.2.2.2
theorem dcL_1008 : (decode cL_law 1387 = .ok (.iadd, 1)) ∧ (decode cL_law 1388 = .ok (.iaload, 1)) ∧ (decode cL_law 1389 = .ok (.aload_n 0, 1)) ∧ (decode cL_law 1390 = .ok (.iload_n 3, 1)) ∧ (decode cL_law 1391 = .ok (.iconst 2, 1)) ∧ (decode cL_law 1392 = .ok (.iadd, 1)) ∧ (decode cL_law 1393 = .ok (.iaload, 1)) ∧ (decode cL_law 1394 = .ok (.aload_n 0, 1)) := by decide +kernel
theorem dL_law_1387 : decode cL_law 1387 = .ok (.iadd, 1) := dcL_1008.1
theorem dL_law_1388 : decode cL_law 1388 = .ok (.iaload, 1) := dcL_1008.2.1
theorem dL_law_1389 : decode cL_law 1389 = .ok (.aload_n 0, 1) := dcL_1008.2.2.1
theorem dL_law_1390 : decode cL_law 1390 = .ok (.iload_n 3, 1) := dcL_1008.2.2.2.1
theorem dL_law_1391 : decode cL_law 1391 = .ok (.iconst 2, 1) := dcL_1008.2.2.2.2.1
theorem dL_law_1392 : decode cL_law 1392 = .ok (.iadd, 1) := dcL_1008.2.2.2.2.2.1
theorem dL_law_1393 : decode cL_law 1393 = .ok (.iaload, 1) := dcL_1008.2.2.2.2.2.2.1
theorem dL_law_1394 : decode cL_law 1394 = .ok (.aload_n 0, 1) := dcL_1008.2.2.2.2.2.2.2
theorem dcL_1016 : (decode cL_law 1395 = .ok (.iload_n 3, 1)) ∧ (decode cL_law 1396 = .ok (.iconst 3, 1)) ∧ (decode cL_law 1397 = .ok (.iadd, 1)) ∧ (decode cL_law 1398 = .ok (.iaload, 1)) ∧ (decode cL_law 1399 = .ok (.invokevirtual 154, 3)) ∧ (decode cL_law 1402 = .ok (.pop, 1)) ∧ (decode cL_law 1403 = .ok (.aload_n 2, 1)) ∧ (decode cL_law 1404 = .ok (.aload_n 0, 1)) := by decide +kernel
theorem dL_law_1395 : decode cL_law 1395 = .ok (.iload_n 3, 1) := dcL_1016.1
theorem dL_law_1396 : decode cL_law 1396 = .ok (.iconst 3, 1) := dcL_1016.2.1
theorem dL_law_1397 : decode cL_law 1397 = .ok (.iadd, 1) := dcL_1016.2.2.1
theorem dL_law_1398 : decode cL_law 1398 = .ok (.iaload, 1) := dcL_1016.2.2.2.1
theorem dL_law_1399 : decode cL_law 1399 = .ok (.invokevirtual 154, 3) := dcL_1016.2.2.2.2.1
theorem dL_law_1402 : decode cL_law 1402 = .ok (.pop, 1) := dcL_1016.2.2.2.2.2.1
theorem dL_law_1403 : decode cL_law 1403 = .ok (.aload_n 2, 1) := dcL_1016.2.2.2.2.2.2.1
theorem dL_law_1404 : decode cL_law 1404 = .ok (.aload_n 0, 1) := dcL_1016.2.2.2.2.2.2.2
theorem dcL_1024 : (decode cL_law 1405 = .ok (.iload_n 3, 1)) ∧ (decode cL_law 1406 = .ok (.iconst 1, 1)) ∧ (decode cL_law 1407 = .ok (.iadd, 1)) ∧ (decode cL_law 1408 = .ok (.iaload, 1)) ∧ (decode cL_law 1409 = .ok (.aload_n 0, 1)) ∧ (decode cL_law 1410 = .ok (.iload_n 3, 1)) ∧ (decode cL_law 1411 = .ok (.iconst 2, 1)) ∧ (decode cL_law 1412 = .ok (.iadd, 1)) := by decide +kernel
theorem dL_law_1405 : decode cL_law 1405 = .ok (.iload_n 3, 1) := dcL_1024.1
theorem dL_law_1406 : decode cL_law 1406 = .ok (.iconst 1, 1) := dcL_1024.2.1
theorem dL_law_1407 : decode cL_law 1407 = .ok (.iadd, 1) := dcL_1024.2.2.1
theorem dL_law_1408 : decode cL_law 1408 = .ok (.iaload, 1) := dcL_1024.2.2.2.1
theorem dL_law_1409 : decode cL_law 1409 = .ok (.aload_n 0, 1) := dcL_1024.2.2.2.2.1
theorem dL_law_1410 : decode cL_law 1410 = .ok (.iload_n 3, 1) := dcL_1024.2.2.2.2.2.1
theorem dL_law_1411 : decode cL_law 1411 = .ok (.iconst 2, 1) := dcL_1024.2.2.2.2.2.2.1
theorem dL_law_1412 : decode cL_law 1412 = .ok (.iadd, 1) := dcL_1024.2.2.2.2.2.2.2
theorem dcL_1032 : (decode cL_law 1413 = .ok (.iaload, 1)) ∧ (decode cL_law 1414 = .ok (.aload_n 0, 1)) ∧ (decode cL_law 1415 = .ok (.iload_n 3, 1)) ∧ (decode cL_law 1416 = .ok (.iconst 3, 1)) ∧ (decode cL_law 1417 = .ok (.iadd, 1)) ∧ (decode cL_law 1418 = .ok (.iaload, 1)) ∧ (decode cL_law 1419 = .ok (.invokevirtual 157, 3)) ∧ (decode cL_law 1422 = .ok (.pop, 1)) := by decide +kernel
theorem dL_law_1413 : decode cL_law 1413 = .ok (.iaload, 1) := dcL_1032.1
theorem dL_law_1414 : decode cL_law 1414 = .ok (.aload_n 0, 1) := dcL_1032.2.1
theorem dL_law_1415 : decode cL_law 1415 = .ok (.iload_n 3, 1) := dcL_1032.2.2.1
theorem dL_law_1416 : decode cL_law 1416 = .ok (.iconst 3, 1) := dcL_1032.2.2.2.1
theorem dL_law_1417 : decode cL_law 1417 = .ok (.iadd, 1) := dcL_1032.2.2.2.2.1
theorem dL_law_1418 : decode cL_law 1418 = .ok (.iaload, 1) := dcL_1032.2.2.2.2.2.1
theorem dL_law_1419 : decode cL_law 1419 = .ok (.invokevirtual 157, 3) := dcL_1032.2.2.2.2.2.2.1
theorem dL_law_1422 : decode cL_law 1422 = .ok (.pop, 1) := dcL_1032.2.2.2.2.2.2.2
theorem dcL_1040 : (decode cL_law 1423 = .ok (.goto 36, 3)) ∧ (decode cL_law 1426 = .ok (.aload_n 1, 1)) ∧ (decode cL_law 1427 = .ok (.aload_n 0, 1)) ∧ (decode cL_law 1428 = .ok (.iload_n 3, 1)) ∧ (decode cL_law 1429 = .ok (.iconst 1, 1)) ∧ (decode cL_law 1430 = .ok (.iadd, 1)) ∧ (decode cL_law 1431 = .ok (.iaload, 1)) ∧ (decode cL_law 1432 = .ok (.aload_n 0, 1)) := by decide +kernel
theorem dL_law_1423 : decode cL_law 1423 = .ok (.goto 36, 3) := dcL_1040.1
theorem dL_law_1426 : decode cL_law 1426 = .ok (.aload_n 1, 1) := dcL_1040.2.1
theorem dL_law_1427 : decode cL_law 1427 = .ok (.aload_n 0, 1) := dcL_1040.2.2.1
theorem dL_law_1428 : decode cL_law 1428 = .ok (.iload_n 3, 1) := dcL_1040.2.2.2.1
theorem dL_law_1429 : decode cL_law 1429 = .ok (.iconst 1, 1) := dcL_1040.2.2.2.2.1
theorem dL_law_1430 : decode cL_law 1430 = .ok (.iadd, 1) := dcL_1040.2.2.2.2.2.1
theorem dL_law_1431 : decode cL_law 1431 = .ok (.iaload, 1) := dcL_1040.2.2.2.2.2.2.1
theorem dL_law_1432 : decode cL_law 1432 = .ok (.aload_n 0, 1) := dcL_1040.2.2.2.2.2.2.2
theorem dcL_1048 : (decode cL_law 1433 = .ok (.iload_n 3, 1)) ∧ (decode cL_law 1434 = .ok (.iconst 2, 1)) ∧ (decode cL_law 1435 = .ok (.iadd, 1)) ∧ (decode cL_law 1436 = .ok (.iaload, 1)) ∧ (decode cL_law 1437 = .ok (.invokevirtual 158, 3)) ∧ (decode cL_law 1440 = .ok (.aload_n 2, 1)) ∧ (decode cL_law 1441 = .ok (.aload_n 0, 1)) ∧ (decode cL_law 1442 = .ok (.iload_n 3, 1)) := by decide +kernel
theorem dL_law_1433 : decode cL_law 1433 = .ok (.iload_n 3, 1) := dcL_1048.1
theorem dL_law_1434 : decode cL_law 1434 = .ok (.iconst 2, 1) := dcL_1048.2.1
theorem dL_law_1435 : decode cL_law 1435 = .ok (.iadd, 1) := dcL_1048.2.2.1
theorem dL_law_1436 : decode cL_law 1436 = .ok (.iaload, 1) := dcL_1048.2.2.2.1
theorem dL_law_1437 : decode cL_law 1437 = .ok (.invokevirtual 158, 3) := dcL_1048.2.2.2.2.1
theorem dL_law_1440 : decode cL_law 1440 = .ok (.aload_n 2, 1) := dcL_1048.2.2.2.2.2.1
theorem dL_law_1441 : decode cL_law 1441 = .ok (.aload_n 0, 1) := dcL_1048.2.2.2.2.2.2.1
theorem dL_law_1442 : decode cL_law 1442 = .ok (.iload_n 3, 1) := dcL_1048.2.2.2.2.2.2.2
theorem dcL_1056 : (decode cL_law 1443 = .ok (.iconst 1, 1)) ∧ (decode cL_law 1444 = .ok (.iadd, 1)) ∧ (decode cL_law 1445 = .ok (.iaload, 1)) ∧ (decode cL_law 1446 = .ok (.aload_n 0, 1)) ∧ (decode cL_law 1447 = .ok (.iload_n 3, 1)) ∧ (decode cL_law 1448 = .ok (.iconst 2, 1)) ∧ (decode cL_law 1449 = .ok (.iadd, 1)) ∧ (decode cL_law 1450 = .ok (.iaload, 1)) := by decide +kernel
theorem dL_law_1443 : decode cL_law 1443 = .ok (.iconst 1, 1) := dcL_1056.1
theorem dL_law_1444 : decode cL_law 1444 = .ok (.iadd, 1) := dcL_1056.2.1
theorem dL_law_1445 : decode cL_law 1445 = .ok (.iaload, 1) := dcL_1056.2.2.1
theorem dL_law_1446 : decode cL_law 1446 = .ok (.aload_n 0, 1) := dcL_1056.2.2.2.1
theorem dL_law_1447 : decode cL_law 1447 = .ok (.iload_n 3, 1) := dcL_1056.2.2.2.2.1
theorem dL_law_1448 : decode cL_law 1448 = .ok (.iconst 2, 1) := dcL_1056.2.2.2.2.2.1
theorem dL_law_1449 : decode cL_law 1449 = .ok (.iadd, 1) := dcL_1056.2.2.2.2.2.2.1
theorem dL_law_1450 : decode cL_law 1450 = .ok (.iaload, 1) := dcL_1056.2.2.2.2.2.2.2
theorem dcL_1064 : (decode cL_law 1451 = .ok (.invokevirtual 161, 3)) ∧ (decode cL_law 1454 = .ok (.if_icmp .eq 5, 3)) ∧ (decode cL_law 1457 = .ok (.iconst 0, 1)) ∧ (decode cL_law 1458 = .ok (.ireturn, 1)) ∧ (decode cL_law 1459 = .ok (.iinc 3 5, 3)) ∧ (decode cL_law 1462 = .ok (.goto (-1444), 3)) ∧ (decode cL_law 1465 = .ok (.iconst 1, 1)) ∧ (decode cL_law 1466 = .ok (.ireturn, 1)) := by decide +kernel
theorem dL_law_1451 : decode cL_law 1451 = .ok (.invokevirtual 161, 3) := dcL_1064.1
theorem dL_law_1454 : decode cL_law 1454 = .ok (.if_icmp .eq 5, 3) := dcL_1064.2.1
theorem dL_law_1457 : decode cL_law 1457 = .ok (.iconst 0, 1) := dcL_1064.2.2.1
theorem dL_law_1458 : decode cL_law 1458 = .ok (.ireturn, 1) := dcL_1064.2.2.2.1
theorem dL_law_1459 : decode cL_law 1459 = .ok (.iinc 3 5, 3) := dcL_1064.2.2.2.2.1
theorem dL_law_1462 : decode cL_law 1462 = .ok (.goto (-1444), 3) := dcL_1064.2.2.2.2.2.1
theorem dL_law_1465 : decode cL_law 1465 = .ok (.iconst 1, 1) := dcL_1064.2.2.2.2.2.2.1
theorem dL_law_1466 : decode cL_law 1466 = .ok (.ireturn, 1) := dcL_1064.2.2.2.2.2.2.2
