theorem dg_L_law_0 : (decode cL_law 0 = .ok (.new 7, 3)) ∧ (decode cL_law 3 = .ok (.dup, 1)) ∧ (decode cL_law 4 = .ok (.invokespecial 9, 3)) ∧ (decode cL_law 7 = .ok (.astore_n 1, 1)) ∧ (decode cL_law 8 = .ok (.new 10, 3)) ∧ (decode cL_law 11 = .ok (.dup, 1)) ∧ (decode cL_law 12 = .ok (.invokespecial 12, 3)) ∧ (decode cL_law 15 = .ok (.astore_n 2, 1)) ∧ (decode cL_law 16 = .ok (.iconst 0, 1)) ∧ (decode cL_law 17 = .ok (.istore_n 3, 1)) ∧ (decode cL_law 18 = .ok (.iload_n 3, 1)) ∧ (decode cL_law 19 = .ok (.aload_n 0, 1)) ∧ (decode cL_law 20 = .ok (.arraylength, 1)) ∧ (decode cL_law 21 = .ok (.bipush 9, 2)) ∧ (decode cL_law 23 = .ok (.isub, 1)) ∧ (decode cL_law 24 = .ok (.if_icmp .gt 1853, 3)) := by decide +kernel
theorem dL_law_0 : decode cL_law 0 = .ok (.new 7, 3) := dg_L_law_0.1
theorem dL_law_3 : decode cL_law 3 = .ok (.dup, 1) := dg_L_law_0.2.1
theorem dL_law_4 : decode cL_law 4 = .ok (.invokespecial 9, 3) := dg_L_law_0.2.2.1
theorem dL_law_7 : decode cL_law 7 = .ok (.astore_n 1, 1) := dg_L_law_0.2.2.2.1
theorem dL_law_8 : decode cL_law 8 = .ok (.new 10, 3) := dg_L_law_0.2.2.2.2.1
theorem dL_law_11 : decode cL_law 11 = .ok (.dup, 1) := dg_L_law_0.2.2.2.2.2.1
theorem dL_law_12 : decode cL_law 12 = .ok (.invokespecial 12, 3) := dg_L_law_0.2.2.2.2.2.2.1
theorem dL_law_15 : decode cL_law 15 = .ok (.astore_n 2, 1) := dg_L_law_0.2.2.2.2.2.2.2.1
theorem dL_law_16 : decode cL_law 16 = .ok (.iconst 0, 1) := dg_L_law_0.2.2.2.2.2.2.2.2.1
theorem dL_law_17 : decode cL_law 17 = .ok (.istore_n 3, 1) := dg_L_law_0.2.2.2.2.2.2.2.2.2.1
theorem dL_law_18 : decode cL_law 18 = .ok (.iload_n 3, 1) := dg_L_law_0.2.2.2.2.2.2.2.2.2.2.1
theorem dL_law_19 : decode cL_law 19 = .ok (.aload_n 0, 1) := dg_L_law_0.2.2.2.2.2.2.2.2.2.2.2.1
theorem dL_law_20 : decode cL_law 20 = .ok (.arraylength, 1) := dg_L_law_0.2.2.2.2.2.2.2.2.2.2.2.2.1
theorem dL_law_21 : decode cL_law 21 = .ok (.bipush 9, 2) := dg_L_law_0.2.2.2.2.2.2.2.2.2.2.2.2.2.1
theorem dL_law_23 : decode cL_law 23 = .ok (.isub, 1) := dg_L_law_0.2.2.2.2.2.2.2.2.2.2.2.2.2.2.1
theorem dL_law_24 : decode cL_law 24 = .ok (.if_icmp .gt 1853, 3) := dg_L_law_0.2.2.2.2.2.2.2.2.2.2.2.2.2.2.2
theorem dg_L_law_27 : (decode cL_law 27 = .ok (.aload_n 0, 1)) ∧ (decode cL_law 28 = .ok (.iload_n 3, 1)) ∧ (decode cL_law 29 = .ok (.iaload, 1)) ∧ (decode cL_law 30 = .ok (.bipush 63, 2)) ∧ (decode cL_law 32 = .ok (.iand, 1)) ∧ (decode cL_law 33 = .ok (.tableswitch 1838 0 34 #[155, 188, 221, 254, 329, 362, 395, 438, 513, 632, 695, 786, 819, 832, 865, 960, 1023, 1056, 1079, 1122, 1185, 1218, 1241, 1304, 1367, 1514, 1547, 1580, 1613, 1740, 1763, 1776, 1789, 1802, 1815], 155)) ∧ (decode cL_law 188 = .ok (.aload_n 1, 1)) ∧ (decode cL_law 189 = .ok (.aload_n 0, 1)) ∧ (decode cL_law 190 = .ok (.iload_n 3, 1)) ∧ (decode cL_law 191 = .ok (.iconst 1, 1)) ∧ (decode cL_law 192 = .ok (.iadd, 1)) ∧ (decode cL_law 193 = .ok (.iaload, 1)) ∧ (decode cL_law 194 = .ok (.aload_n 0, 1)) ∧ (decode cL_law 195 = .ok (.iload_n 3, 1)) ∧ (decode cL_law 196 = .ok (.iconst 2, 1)) ∧ (decode cL_law 197 = .ok (.iadd, 1)) := by decide +kernel
theorem dL_law_27 : decode cL_law 27 = .ok (.aload_n 0, 1) := dg_L_law_27.1
theorem dL_law_28 : decode cL_law 28 = .ok (.iload_n 3, 1) := dg_L_law_27.2.1
theorem dL_law_29 : decode cL_law 29 = .ok (.iaload, 1) := dg_L_law_27.2.2.1
theorem dL_law_30 : decode cL_law 30 = .ok (.bipush 63, 2) := dg_L_law_27.2.2.2.1
theorem dL_law_32 : decode cL_law 32 = .ok (.iand, 1) := dg_L_law_27.2.2.2.2.1
theorem dL_law_33 : decode cL_law 33 = .ok (.tableswitch 1838 0 34 #[155, 188, 221, 254, 329, 362, 395, 438, 513, 632, 695, 786, 819, 832, 865, 960, 1023, 1056, 1079, 1122, 1185, 1218, 1241, 1304, 1367, 1514, 1547, 1580, 1613, 1740, 1763, 1776, 1789, 1802, 1815], 155) := dg_L_law_27.2.2.2.2.2.1
theorem dL_law_188 : decode cL_law 188 = .ok (.aload_n 1, 1) := dg_L_law_27.2.2.2.2.2.2.1
theorem dL_law_189 : decode cL_law 189 = .ok (.aload_n 0, 1) := dg_L_law_27.2.2.2.2.2.2.2.1
theorem dL_law_190 : decode cL_law 190 = .ok (.iload_n 3, 1) := dg_L_law_27.2.2.2.2.2.2.2.2.1
theorem dL_law_191 : decode cL_law 191 = .ok (.iconst 1, 1) := dg_L_law_27.2.2.2.2.2.2.2.2.2.1
theorem dL_law_192 : decode cL_law 192 = .ok (.iadd, 1) := dg_L_law_27.2.2.2.2.2.2.2.2.2.2.1
theorem dL_law_193 : decode cL_law 193 = .ok (.iaload, 1) := dg_L_law_27.2.2.2.2.2.2.2.2.2.2.2.1
theorem dL_law_194 : decode cL_law 194 = .ok (.aload_n 0, 1) := dg_L_law_27.2.2.2.2.2.2.2.2.2.2.2.2.1
theorem dL_law_195 : decode cL_law 195 = .ok (.iload_n 3, 1) := dg_L_law_27.2.2.2.2.2.2.2.2.2.2.2.2.2.1
theorem dL_law_196 : decode cL_law 196 = .ok (.iconst 2, 1) := dg_L_law_27.2.2.2.2.2.2.2.2.2.2.2.2.2.2.1
theorem dL_law_197 : decode cL_law 197 = .ok (.iadd, 1) := dg_L_law_27.2.2.2.2.2.2.2.2.2.2.2.2.2.2.2
theorem dg_L_law_198 : (decode cL_law 198 = .ok (.iaload, 1)) ∧ (decode cL_law 199 = .ok (.invokevirtual 13, 3)) ∧ (decode cL_law 202 = .ok (.pop, 1)) ∧ (decode cL_law 203 = .ok (.aload_n 2, 1)) ∧ (decode cL_law 204 = .ok (.aload_n 0, 1)) ∧ (decode cL_law 205 = .ok (.iload_n 3, 1)) ∧ (decode cL_law 206 = .ok (.iconst 1, 1)) ∧ (decode cL_law 207 = .ok (.iadd, 1)) ∧ (decode cL_law 208 = .ok (.iaload, 1)) ∧ (decode cL_law 209 = .ok (.aload_n 0, 1)) ∧ (decode cL_law 210 = .ok (.iload_n 3, 1)) ∧ (decode cL_law 211 = .ok (.iconst 2, 1)) ∧ (decode cL_law 212 = .ok (.iadd, 1)) ∧ (decode cL_law 213 = .ok (.iaload, 1)) ∧ (decode cL_law 214 = .ok (.invokevirtual 17, 3)) ∧ (decode cL_law 217 = .ok (.pop, 1)) := by decide +kernel
theorem dL_law_198 : decode cL_law 198 = .ok (.iaload, 1) := dg_L_law_198.1
theorem dL_law_199 : decode cL_law 199 = .ok (.invokevirtual 13, 3) := dg_L_law_198.2.1
theorem dL_law_202 : decode cL_law 202 = .ok (.pop, 1) := dg_L_law_198.2.2.1
theorem dL_law_203 : decode cL_law 203 = .ok (.aload_n 2, 1) := dg_L_law_198.2.2.2.1
theorem dL_law_204 : decode cL_law 204 = .ok (.aload_n 0, 1) := dg_L_law_198.2.2.2.2.1
theorem dL_law_205 : decode cL_law 205 = .ok (.iload_n 3, 1) := dg_L_law_198.2.2.2.2.2.1
theorem dL_law_206 : decode cL_law 206 = .ok (.iconst 1, 1) := dg_L_law_198.2.2.2.2.2.2.1
theorem dL_law_207 : decode cL_law 207 = .ok (.iadd, 1) := dg_L_law_198.2.2.2.2.2.2.2.1
theorem dL_law_208 : decode cL_law 208 = .ok (.iaload, 1) := dg_L_law_198.2.2.2.2.2.2.2.2.1
theorem dL_law_209 : decode cL_law 209 = .ok (.aload_n 0, 1) := dg_L_law_198.2.2.2.2.2.2.2.2.2.1
theorem dL_law_210 : decode cL_law 210 = .ok (.iload_n 3, 1) := dg_L_law_198.2.2.2.2.2.2.2.2.2.2.1
theorem dL_law_211 : decode cL_law 211 = .ok (.iconst 2, 1) := dg_L_law_198.2.2.2.2.2.2.2.2.2.2.2.1
theorem dL_law_212 : decode cL_law 212 = .ok (.iadd, 1) := dg_L_law_198.2.2.2.2.2.2.2.2.2.2.2.2.1
theorem dL_law_213 : decode cL_law 213 = .ok (.iaload, 1) := dg_L_law_198.2.2.2.2.2.2.2.2.2.2.2.2.2.1
theorem dL_law_214 : decode cL_law 214 = .ok (.invokevirtual 17, 3) := dg_L_law_198.2.2.2.2.2.2.2.2.2.2.2.2.2.2.1
theorem dL_law_217 : decode cL_law 217 = .ok (.pop, 1) := dg_L_law_198.2.2.2.2.2.2.2.2.2.2.2.2.2.2.2
theorem dg_L_law_218 : (decode cL_law 218 = .ok (.goto 1653, 3)) ∧ (decode cL_law 221 = .ok (.aload_n 1, 1)) ∧ (decode cL_law 222 = .ok (.aload_n 0, 1)) ∧ (decode cL_law 223 = .ok (.iload_n 3, 1)) ∧ (decode cL_law 224 = .ok (.iconst 1, 1)) ∧ (decode cL_law 225 = .ok (.iadd, 1)) ∧ (decode cL_law 226 = .ok (.iaload, 1)) ∧ (decode cL_law 227 = .ok (.aload_n 0, 1)) ∧ (decode cL_law 228 = .ok (.iload_n 3, 1)) ∧ (decode cL_law 229 = .ok (.iconst 2, 1)) ∧ (decode cL_law 230 = .ok (.iadd, 1)) ∧ (decode cL_law 231 = .ok (.iaload, 1)) ∧ (decode cL_law 232 = .ok (.invokevirtual 18, 3)) ∧ (decode cL_law 235 = .ok (.pop, 1)) ∧ (decode cL_law 236 = .ok (.aload_n 2, 1)) ∧ (decode cL_law 237 = .ok (.aload_n 0, 1)) := by decide +kernel
theorem dL_law_218 : decode cL_law 218 = .ok (.goto 1653, 3) := dg_L_law_218.1
theorem dL_law_221 : decode cL_law 221 = .ok (.aload_n 1, 1) := dg_L_law_218.2.1
theorem dL_law_222 : decode cL_law 222 = .ok (.aload_n 0, 1) := dg_L_law_218.2.2.1
theorem dL_law_223 : decode cL_law 223 = .ok (.iload_n 3, 1) := dg_L_law_218.2.2.2.1
theorem dL_law_224 : decode cL_law 224 = .ok (.iconst 1, 1) := dg_L_law_218.2.2.2.2.1
theorem dL_law_225 : decode cL_law 225 = .ok (.iadd, 1) := dg_L_law_218.2.2.2.2.2.1
theorem dL_law_226 : decode cL_law 226 = .ok (.iaload, 1) := dg_L_law_218.2.2.2.2.2.2.1
theorem dL_law_227 : decode cL_law 227 = .ok (.aload_n 0, 1) := dg_L_law_218.2.2.2.2.2.2.2.1
theorem dL_law_228 : decode cL_law 228 = .ok (.iload_n 3, 1) := dg_L_law_218.2.2.2.2.2.2.2.2.1
theorem dL_law_229 : decode cL_law 229 = .ok (.iconst 2, 1) := dg_L_law_218.2.2.2.2.2.2.2.2.2.1
theorem dL_law_230 : decode cL_law 230 = .ok (.iadd, 1) := dg_L_law_218.2.2.2.2.2.2.2.2.2.2.1
theorem dL_law_231 : decode cL_law 231 = .ok (.iaload, 1) := dg_L_law_218.2.2.2.2.2.2.2.2.2.2.2.1
theorem dL_law_232 : decode cL_law 232 = .ok (.invokevirtual 18, 3) := dg_L_law_218.2.2.2.2.2.2.2.2.2.2.2.2.1
theorem dL_law_235 : decode cL_law 235 = .ok (.pop, 1) := dg_L_law_218.2.2.2.2.2.2.2.2.2.2.2.2.2.1
theorem dL_law_236 : decode cL_law 236 = .ok (.aload_n 2, 1) := dg_L_law_218.2.2.2.2.2.2.2.2.2.2.2.2.2.2.1
theorem dL_law_237 : decode cL_law 237 = .ok (.aload_n 0, 1) := dg_L_law_218.2.2.2.2.2.2.2.2.2.2.2.2.2.2.2
theorem dg_L_law_238 : (decode cL_law 238 = .ok (.iload_n 3, 1)) ∧ (decode cL_law 239 = .ok (.iconst 1, 1)) ∧ (decode cL_law 240 = .ok (.iadd, 1)) ∧ (decode cL_law 241 = .ok (.iaload, 1)) ∧ (decode cL_law 242 = .ok (.aload_n 0, 1)) ∧ (decode cL_law 243 = .ok (.iload_n 3, 1)) ∧ (decode cL_law 244 = .ok (.iconst 2, 1)) ∧ (decode cL_law 245 = .ok (.iadd, 1)) ∧ (decode cL_law 246 = .ok (.iaload, 1)) ∧ (decode cL_law 247 = .ok (.invokevirtual 21, 3)) ∧ (decode cL_law 250 = .ok (.pop, 1)) ∧ (decode cL_law 251 = .ok (.goto 1620, 3)) ∧ (decode cL_law 254 = .ok (.aload_n 1, 1)) ∧ (decode cL_law 255 = .ok (.aload_n 0, 1)) ∧ (decode cL_law 256 = .ok (.iload_n 3, 1)) ∧ (decode cL_law 257 = .ok (.iconst 1, 1)) := by decide +kernel
theorem dL_law_238 : decode cL_law 238 = .ok (.iload_n 3, 1) := dg_L_law_238.1
theorem dL_law_239 : decode cL_law 239 = .ok (.iconst 1, 1) := dg_L_law_238.2.1
theorem dL_law_240 : decode cL_law 240 = .ok (.iadd, 1) := dg_L_law_238.2.2.1
theorem dL_law_241 : decode cL_law 241 = .ok (.iaload, 1) := dg_L_law_238.2.2.2.1
theorem dL_law_242 : decode cL_law 242 = .ok (.aload_n 0, 1) := dg_L_law_238.2.2.2.2.1
theorem dL_law_243 : decode cL_law 243 = .ok (.iload_n 3, 1) := dg_L_law_238.2.2.2.2.2.1
theorem dL_law_244 : decode cL_law 244 = .ok (.iconst 2, 1) := dg_L_law_238.2.2.2.2.2.2.1
theorem dL_law_245 : decode cL_law 245 = .ok (.iadd, 1) := dg_L_law_238.2.2.2.2.2.2.2.1
theorem dL_law_246 : decode cL_law 246 = .ok (.iaload, 1) := dg_L_law_238.2.2.2.2.2.2.2.2.1
theorem dL_law_247 : decode cL_law 247 = .ok (.invokevirtual 21, 3) := dg_L_law_238.2.2.2.2.2.2.2.2.2.1
theorem dL_law_250 : decode cL_law 250 = .ok (.pop, 1) := dg_L_law_238.2.2.2.2.2.2.2.2.2.2.1
theorem dL_law_251 : decode cL_law 251 = .ok (.goto 1620, 3) := dg_L_law_238.2.2.2.2.2.2.2.2.2.2.2.1
theorem dL_law_254 : decode cL_law 254 = .ok (.aload_n 1, 1) := dg_L_law_238.2.2.2.2.2.2.2.2.2.2.2.2.1
theorem dL_law_255 : decode cL_law 255 = .ok (.aload_n 0, 1) := dg_L_law_238.2.2.2.2.2.2.2.2.2.2.2.2.2.1
theorem dL_law_256 : decode cL_law 256 = .ok (.iload_n 3, 1) := dg_L_law_238.2.2.2.2.2.2.2.2.2.2.2.2.2.2.1
theorem dL_law_257 : decode cL_law 257 = .ok (.iconst 1, 1) := dg_L_law_238.2.2.2.2.2.2.2.2.2.2.2.2.2.2.2
theorem dg_L_law_258 : (decode cL_law 258 = .ok (.iadd, 1)) ∧ (decode cL_law 259 = .ok (.iaload, 1)) ∧ (decode cL_law 260 = .ok (.aload_n 0, 1)) ∧ (decode cL_law 261 = .ok (.iload_n 3, 1)) ∧ (decode cL_law 262 = .ok (.iconst 2, 1)) ∧ (decode cL_law 263 = .ok (.iadd, 1)) ∧ (decode cL_law 264 = .ok (.iaload, 1)) ∧ (decode cL_law 265 = .ok (.invokevirtual 22, 3)) ∧ (decode cL_law 268 = .ok (.pop, 1)) ∧ (decode cL_law 269 = .ok (.aload_n 2, 1)) ∧ (decode cL_law 270 = .ok (.aload_n 0, 1)) ∧ (decode cL_law 271 = .ok (.iload_n 3, 1)) ∧ (decode cL_law 272 = .ok (.iconst 1, 1)) ∧ (decode cL_law 273 = .ok (.iadd, 1)) ∧ (decode cL_law 274 = .ok (.iaload, 1)) ∧ (decode cL_law 275 = .ok (.aload_n 0, 1)) := by decide +kernel
theorem dL_law_258 : decode cL_law 258 = .ok (.iadd, 1) := dg_L_law_258.1
theorem dL_law_259 : decode cL_law 259 = .ok (.iaload, 1) := dg_L_law_258.2.1
theorem dL_law_260 : decode cL_law 260 = .ok (.aload_n 0, 1) := dg_L_law_258.2.2.1
theorem dL_law_261 : decode cL_law 261 = .ok (.iload_n 3, 1) := dg_L_law_258.2.2.2.1
theorem dL_law_262 : decode cL_law 262 = .ok (.iconst 2, 1) := dg_L_law_258.2.2.2.2.1
theorem dL_law_263 : decode cL_law 263 = .ok (.iadd, 1) := dg_L_law_258.2.2.2.2.2.1
theorem dL_law_264 : decode cL_law 264 = .ok (.iaload, 1) := dg_L_law_258.2.2.2.2.2.2.1
theorem dL_law_265 : decode cL_law 265 = .ok (.invokevirtual 22, 3) := dg_L_law_258.2.2.2.2.2.2.2.1
theorem dL_law_268 : decode cL_law 268 = .ok (.pop, 1) := dg_L_law_258.2.2.2.2.2.2.2.2.1
theorem dL_law_269 : decode cL_law 269 = .ok (.aload_n 2, 1) := dg_L_law_258.2.2.2.2.2.2.2.2.2.1
theorem dL_law_270 : decode cL_law 270 = .ok (.aload_n 0, 1) := dg_L_law_258.2.2.2.2.2.2.2.2.2.2.1
theorem dL_law_271 : decode cL_law 271 = .ok (.iload_n 3, 1) := dg_L_law_258.2.2.2.2.2.2.2.2.2.2.2.1
theorem dL_law_272 : decode cL_law 272 = .ok (.iconst 1, 1) := dg_L_law_258.2.2.2.2.2.2.2.2.2.2.2.2.1
theorem dL_law_273 : decode cL_law 273 = .ok (.iadd, 1) := dg_L_law_258.2.2.2.2.2.2.2.2.2.2.2.2.2.1
theorem dL_law_274 : decode cL_law 274 = .ok (.iaload, 1) := dg_L_law_258.2.2.2.2.2.2.2.2.2.2.2.2.2.2.1
theorem dL_law_275 : decode cL_law 275 = .ok (.aload_n 0, 1) := dg_L_law_258.2.2.2.2.2.2.2.2.2.2.2.2.2.2.2
theorem dg_L_law_276 : (decode cL_law 276 = .ok (.iload_n 3, 1)) ∧ (decode cL_law 277 = .ok (.iconst 2, 1)) ∧ (decode cL_law 278 = .ok (.iadd, 1)) ∧ (decode cL_law 279 = .ok (.iaload, 1)) ∧ (decode cL_law 280 = .ok (.invokevirtual 25, 3)) ∧ (decode cL_law 283 = .ok (.pop, 1)) ∧ (decode cL_law 284 = .ok (.goto 1587, 3)) ∧ (decode cL_law 287 = .ok (.aload_n 1, 1)) ∧ (decode cL_law 288 = .ok (.aload_n 0, 1)) ∧ (decode cL_law 289 = .ok (.iload_n 3, 1)) ∧ (decode cL_law 290 = .ok (.iconst 1, 1)) ∧ (decode cL_law 291 = .ok (.iadd, 1)) ∧ (decode cL_law 292 = .ok (.iaload, 1)) ∧ (decode cL_law 293 = .ok (.aload_n 0, 1)) ∧ (decode cL_law 294 = .ok (.iload_n 3, 1)) ∧ (decode cL_law 295 = .ok (.iconst 2, 1)) := by decide +kernel
theorem dL_law_276 : decode cL_law 276 = .ok (.iload_n 3, 1) := dg_L_law_276.1
theorem dL_law_277 : decode cL_law 277 = .ok (.iconst 2, 1) := dg_L_law_276.2.1
theorem dL_law_278 : decode cL_law 278 = .ok (.iadd, 1) := dg_L_law_276.2.2.1
theorem dL_law_279 : decode cL_law 279 = .ok (.iaload, 1) := dg_L_law_276.2.2.2.1
theorem dL_law_280 : decode cL_law 280 = .ok (.invokevirtual 25, 3) := dg_L_law_276.2.2.2.2.1
theorem dL_law_283 : decode cL_law 283 = .ok (.pop, 1) := dg_L_law_276.2.2.2.2.2.1
theorem dL_law_284 : decode cL_law 284 = .ok (.goto 1587, 3) := dg_L_law_276.2.2.2.2.2.2.1
theorem dL_law_287 : decode cL_law 287 = .ok (.aload_n 1, 1) := dg_L_law_276.2.2.2.2.2.2.2.1
theorem dL_law_288 : decode cL_law 288 = .ok (.aload_n 0, 1) := dg_L_law_276.2.2.2.2.2.2.2.2.1
theorem dL_law_289 : decode cL_law 289 = .ok (.iload_n 3, 1) := dg_L_law_276.2.2.2.2.2.2.2.2.2.1
theorem dL_law_290 : decode cL_law 290 = .ok (.iconst 1, 1) := dg_L_law_276.2.2.2.2.2.2.2.2.2.2.1
theorem dL_law_291 : decode cL_law 291 = .ok (.iadd, 1) := dg_L_law_276.2.2.2.2.2.2.2.2.2.2.2.1
theorem dL_law_292 : decode cL_law 292 = .ok (.iaload, 1) := dg_L_law_276.2.2.2.2.2.2.2.2.2.2.2.2.1
theorem dL_law_293 : decode cL_law 293 = .ok (.aload_n 0, 1) := dg_L_law_276.2.2.2.2.2.2.2.2.2.2.2.2.2.1
theorem dL_law_294 : decode cL_law 294 = .ok (.iload_n 3, 1) := dg_L_law_276.2.2.2.2.2.2.2.2.2.2.2.2.2.2.1
theorem dL_law_295 : decode cL_law 295 = .ok (.iconst 2, 1) := dg_L_law_276.2.2.2.2.2.2.2.2.2.2.2.2.2.2.2
theorem dg_L_law_296 : (decode cL_law 296 = .ok (.iadd, 1)) ∧ (decode cL_law 297 = .ok (.iaload, 1)) ∧ (decode cL_law 298 = .ok (.aload_n 0, 1)) ∧ (decode cL_law 299 = .ok (.iload_n 3, 1)) ∧ (decode cL_law 300 = .ok (.iconst 3, 1)) ∧ (decode cL_law 301 = .ok (.iadd, 1)) ∧ (decode cL_law 302 = .ok (.iaload, 1)) ∧ (decode cL_law 303 = .ok (.aload_n 0, 1)) ∧ (decode cL_law 304 = .ok (.iload_n 3, 1)) ∧ (decode cL_law 305 = .ok (.iconst 4, 1)) ∧ (decode cL_law 306 = .ok (.iadd, 1)) ∧ (decode cL_law 307 = .ok (.iaload, 1)) ∧ (decode cL_law 308 = .ok (.aload_n 0, 1)) ∧ (decode cL_law 309 = .ok (.iload_n 3, 1)) ∧ (decode cL_law 310 = .ok (.iconst 5, 1)) ∧ (decode cL_law 311 = .ok (.iadd, 1)) := by decide +kernel
theorem dL_law_296 : decode cL_law 296 = .ok (.iadd, 1) := dg_L_law_296.1
theorem dL_law_297 : decode cL_law 297 = .ok (.iaload, 1) := dg_L_law_296.2.1
theorem dL_law_298 : decode cL_law 298 = .ok (.aload_n 0, 1) := dg_L_law_296.2.2.1
theorem dL_law_299 : decode cL_law 299 = .ok (.iload_n 3, 1) := dg_L_law_296.2.2.2.1
theorem dL_law_300 : decode cL_law 300 = .ok (.iconst 3, 1) := dg_L_law_296.2.2.2.2.1
theorem dL_law_301 : decode cL_law 301 = .ok (.iadd, 1) := dg_L_law_296.2.2.2.2.2.1
theorem dL_law_302 : decode cL_law 302 = .ok (.iaload, 1) := dg_L_law_296.2.2.2.2.2.2.1
theorem dL_law_303 : decode cL_law 303 = .ok (.aload_n 0, 1) := dg_L_law_296.2.2.2.2.2.2.2.1
theorem dL_law_304 : decode cL_law 304 = .ok (.iload_n 3, 1) := dg_L_law_296.2.2.2.2.2.2.2.2.1
theorem dL_law_305 : decode cL_law 305 = .ok (.iconst 4, 1) := dg_L_law_296.2.2.2.2.2.2.2.2.2.1
theorem dL_law_306 : decode cL_law 306 = .ok (.iadd, 1) := dg_L_law_296.2.2.2.2.2.2.2.2.2.2.1
theorem dL_law_307 : decode cL_law 307 = .ok (.iaload, 1) := dg_L_law_296.2.2.2.2.2.2.2.2.2.2.2.1
theorem dL_law_308 : decode cL_law 308 = .ok (.aload_n 0, 1) := dg_L_law_296.2.2.2.2.2.2.2.2.2.2.2.2.1
theorem dL_law_309 : decode cL_law 309 = .ok (.iload_n 3, 1) := dg_L_law_296.2.2.2.2.2.2.2.2.2.2.2.2.2.1
theorem dL_law_310 : decode cL_law 310 = .ok (.iconst 5, 1) := dg_L_law_296.2.2.2.2.2.2.2.2.2.2.2.2.2.2.1
theorem dL_law_311 : decode cL_law 311 = .ok (.iadd, 1) := dg_L_law_296.2.2.2.2.2.2.2.2.2.2.2.2.2.2.2
theorem dg_L_law_312 : (decode cL_law 312 = .ok (.iaload, 1)) ∧ (decode cL_law 313 = .ok (.aload_n 0, 1)) ∧ (decode cL_law 314 = .ok (.iload_n 3, 1)) ∧ (decode cL_law 315 = .ok (.bipush 6, 2)) ∧ (decode cL_law 317 = .ok (.iadd, 1)) ∧ (decode cL_law 318 = .ok (.iaload, 1)) ∧ (decode cL_law 319 = .ok (.invokevirtual 26, 3)) ∧ (decode cL_law 322 = .ok (.pop, 1)) ∧ (decode cL_law 323 = .ok (.aload_n 2, 1)) ∧ (decode cL_law 324 = .ok (.aload_n 0, 1)) ∧ (decode cL_law 325 = .ok (.iload_n 3, 1)) ∧ (decode cL_law 326 = .ok (.iconst 1, 1)) ∧ (decode cL_law 327 = .ok (.iadd, 1)) ∧ (decode cL_law 328 = .ok (.iaload, 1)) ∧ (decode cL_law 329 = .ok (.aload_n 0, 1)) ∧ (decode cL_law 330 = .ok (.iload_n 3, 1)) := by decide +kernel
theorem dL_law_312 : decode cL_law 312 = .ok (.iaload, 1) := dg_L_law_312.1
theorem dL_law_313 : decode cL_law 313 = .ok (.aload_n 0, 1) := dg_L_law_312.2.1
theorem dL_law_314 : decode cL_law 314 = .ok (.iload_n 3, 1) := dg_L_law_312.2.2.1
theorem dL_law_315 : decode cL_law 315 = .ok (.bipush 6, 2) := dg_L_law_312.2.2.2.1
theorem dL_law_317 : decode cL_law 317 = .ok (.iadd, 1) := dg_L_law_312.2.2.2.2.1
theorem dL_law_318 : decode cL_law 318 = .ok (.iaload, 1) := dg_L_law_312.2.2.2.2.2.1
theorem dL_law_319 : decode cL_law 319 = .ok (.invokevirtual 26, 3) := dg_L_law_312.2.2.2.2.2.2.1
theorem dL_law_322 : decode cL_law 322 = .ok (.pop, 1) := dg_L_law_312.2.2.2.2.2.2.2.1
theorem dL_law_323 : decode cL_law 323 = .ok (.aload_n 2, 1) := dg_L_law_312.2.2.2.2.2.2.2.2.1
theorem dL_law_324 : decode cL_law 324 = .ok (.aload_n 0, 1) := dg_L_law_312.2.2.2.2.2.2.2.2.2.1
theorem dL_law_325 : decode cL_law 325 = .ok (.iload_n 3, 1) := dg_L_law_312.2.2.2.2.2.2.2.2.2.2.1
theorem dL_law_326 : decode cL_law 326 = .ok (.iconst 1, 1) := dg_L_law_312.2.2.2.2.2.2.2.2.2.2.2.1
theorem dL_law_327 : decode cL_law 327 = .ok (.iadd, 1) := dg_L_law_312.2.2.2.2.2.2.2.2.2.2.2.2.1
theorem dL_law_328 : decode cL_law 328 = .ok (.iaload, 1) := dg_L_law_312.2.2.2.2.2.2.2.2.2.2.2.2.2.1
theorem dL_law_329 : decode cL_law 329 = .ok (.aload_n 0, 1) := dg_L_law_312.2.2.2.2.2.2.2.2.2.2.2.2.2.2.1
theorem dL_law_330 : decode cL_law 330 = .ok (.iload_n 3, 1) := dg_L_law_312.2.2.2.2.2.2.2.2.2.2.2.2.2.2.2
theorem dg_L_law_331 : (decode cL_law 331 = .ok (.iconst 2, 1)) ∧ (decode cL_law 332 = .ok (.iadd, 1)) ∧ (decode cL_law 333 = .ok (.iaload, 1)) ∧ (decode cL_law 334 = .ok (.aload_n 0, 1)) ∧ (decode cL_law 335 = .ok (.iload_n 3, 1)) ∧ (decode cL_law 336 = .ok (.iconst 3, 1)) ∧ (decode cL_law 337 = .ok (.iadd, 1)) ∧ (decode cL_law 338 = .ok (.iaload, 1)) ∧ (decode cL_law 339 = .ok (.aload_n 0, 1)) ∧ (decode cL_law 340 = .ok (.iload_n 3, 1)) ∧ (decode cL_law 341 = .ok (.iconst 4, 1)) ∧ (decode cL_law 342 = .ok (.iadd, 1)) ∧ (decode cL_law 343 = .ok (.iaload, 1)) ∧ (decode cL_law 344 = .ok (.aload_n 0, 1)) ∧ (decode cL_law 345 = .ok (.iload_n 3, 1)) ∧ (decode cL_law 346 = .ok (.iconst 5, 1)) := by decide +kernel
theorem dL_law_331 : decode cL_law 331 = .ok (.iconst 2, 1) := dg_L_law_331.1
theorem dL_law_332 : decode cL_law 332 = .ok (.iadd, 1) := dg_L_law_331.2.1
theorem dL_law_333 : decode cL_law 333 = .ok (.iaload, 1) := dg_L_law_331.2.2.1
theorem dL_law_334 : decode cL_law 334 = .ok (.aload_n 0, 1) := dg_L_law_331.2.2.2.1
theorem dL_law_335 : decode cL_law 335 = .ok (.iload_n 3, 1) := dg_L_law_331.2.2.2.2.1
theorem dL_law_336 : decode cL_law 336 = .ok (.iconst 3, 1) := dg_L_law_331.2.2.2.2.2.1
theorem dL_law_337 : decode cL_law 337 = .ok (.iadd, 1) := dg_L_law_331.2.2.2.2.2.2.1
theorem dL_law_338 : decode cL_law 338 = .ok (.iaload, 1) := dg_L_law_331.2.2.2.2.2.2.2.1
theorem dL_law_339 : decode cL_law 339 = .ok (.aload_n 0, 1) := dg_L_law_331.2.2.2.2.2.2.2.2.1
theorem dL_law_340 : decode cL_law 340 = .ok (.iload_n 3, 1) := dg_L_law_331.2.2.2.2.2.2.2.2.2.1
theorem dL_law_341 : decode cL_law 341 = .ok (.iconst 4, 1) := dg_L_law_331.2.2.2.2.2.2.2.2.2.2.1
theorem dL_law_342 : decode cL_law 342 = .ok (.iadd, 1) := dg_L_law_331.2.2.2.2.2.2.2.2.2.2.2.1
theorem dL_law_343 : decode cL_law 343 = .ok (.iaload, 1) := dg_L_law_331.2.2.2.2.2.2.2.2.2.2.2.2.1
theorem dL_law_344 : decode cL_law 344 = .ok (.aload_n 0, 1) := dg_L_law_331.2.2.2.2.2.2.2.2.2.2.2.2.2.1
theorem dL_law_345 : decode cL_law 345 = .ok (.iload_n 3, 1) := dg_L_law_331.2.2.2.2.2.2.2.2.2.2.2.2.2.2.1
theorem dL_law_346 : decode cL_law 346 = .ok (.iconst 5, 1) := dg_L_law_331.2.2.2.2.2.2.2.2.2.2.2.2.2.2.2
theorem dg_L_law_347 : (decode cL_law 347 = .ok (.iadd, 1)) ∧ (decode cL_law 348 = .ok (.iaload, 1)) ∧ (decode cL_law 349 = .ok (.aload_n 0, 1)) ∧ (decode cL_law 350 = .ok (.iload_n 3, 1)) ∧ (decode cL_law 351 = .ok (.bipush 6, 2)) ∧ (decode cL_law 353 = .ok (.iadd, 1)) ∧ (decode cL_law 354 = .ok (.iaload, 1)) ∧ (decode cL_law 355 = .ok (.invokevirtual 30, 3)) ∧ (decode cL_law 358 = .ok (.pop, 1)) ∧ (decode cL_law 359 = .ok (.goto 1512, 3)) ∧ (decode cL_law 362 = .ok (.aload_n 1, 1)) ∧ (decode cL_law 363 = .ok (.aload_n 0, 1)) ∧ (decode cL_law 364 = .ok (.iload_n 3, 1)) ∧ (decode cL_law 365 = .ok (.iconst 1, 1)) ∧ (decode cL_law 366 = .ok (.iadd, 1)) ∧ (decode cL_law 367 = .ok (.iaload, 1)) := by decide +kernel
theorem dL_law_347 : decode cL_law 347 = .ok (.iadd, 1) := dg_L_law_347.1
theorem dL_law_348 : decode cL_law 348 = .ok (.iaload, 1) := dg_L_law_347.2.1
theorem dL_law_349 : decode cL_law 349 = .ok (.aload_n 0, 1) := dg_L_law_347.2.2.1
theorem dL_law_350 : decode cL_law 350 = .ok (.iload_n 3, 1) := dg_L_law_347.2.2.2.1
theorem dL_law_351 : decode cL_law 351 = .ok (.bipush 6, 2) := dg_L_law_347.2.2.2.2.1
theorem dL_law_353 : decode cL_law 353 = .ok (.iadd, 1) := dg_L_law_347.2.2.2.2.2.1
theorem dL_law_354 : decode cL_law 354 = .ok (.iaload, 1) := dg_L_law_347.2.2.2.2.2.2.1
theorem dL_law_355 : decode cL_law 355 = .ok (.invokevirtual 30, 3) := dg_L_law_347.2.2.2.2.2.2.2.1
theorem dL_law_358 : decode cL_law 358 = .ok (.pop, 1) := dg_L_law_347.2.2.2.2.2.2.2.2.1
theorem dL_law_359 : decode cL_law 359 = .ok (.goto 1512, 3) := dg_L_law_347.2.2.2.2.2.2.2.2.2.1
theorem dL_law_362 : decode cL_law 362 = .ok (.aload_n 1, 1) := dg_L_law_347.2.2.2.2.2.2.2.2.2.2.1
theorem dL_law_363 : decode cL_law 363 = .ok (.aload_n 0, 1) := dg_L_law_347.2.2.2.2.2.2.2.2.2.2.2.1
theorem dL_law_364 : decode cL_law 364 = .ok (.iload_n 3, 1) := dg_L_law_347.2.2.2.2.2.2.2.2.2.2.2.2.1
theorem dL_law_365 : decode cL_law 365 = .ok (.iconst 1, 1) := dg_L_law_347.2.2.2.2.2.2.2.2.2.2.2.2.2.1
theorem dL_law_366 : decode cL_law 366 = .ok (.iadd, 1) := dg_L_law_347.2.2.2.2.2.2.2.2.2.2.2.2.2.2.1
theorem dL_law_367 : decode cL_law 367 = .ok (.iaload, 1) := dg_L_law_347.2.2.2.2.2.2.2.2.2.2.2.2.2.2.2
theorem dg_L_law_368 : (decode cL_law 368 = .ok (.aload_n 0, 1)) ∧ (decode cL_law 369 = .ok (.iload_n 3, 1)) ∧ (decode cL_law 370 = .ok (.iconst 2, 1)) ∧ (decode cL_law 371 = .ok (.iadd, 1)) ∧ (decode cL_law 372 = .ok (.iaload, 1)) ∧ (decode cL_law 373 = .ok (.invokevirtual 31, 3)) ∧ (decode cL_law 376 = .ok (.pop, 1)) ∧ (decode cL_law 377 = .ok (.aload_n 2, 1)) ∧ (decode cL_law 378 = .ok (.aload_n 0, 1)) ∧ (decode cL_law 379 = .ok (.iload_n 3, 1)) ∧ (decode cL_law 380 = .ok (.iconst 1, 1)) ∧ (decode cL_law 381 = .ok (.iadd, 1)) ∧ (decode cL_law 382 = .ok (.iaload, 1)) ∧ (decode cL_law 383 = .ok (.aload_n 0, 1)) ∧ (decode cL_law 384 = .ok (.iload_n 3, 1)) ∧ (decode cL_law 385 = .ok (.iconst 2, 1)) := by decide +kernel
theorem dL_law_368 : decode cL_law 368 = .ok (.aload_n 0, 1) := dg_L_law_368.1
theorem dL_law_369 : decode cL_law 369 = .ok (.iload_n 3, 1) := dg_L_law_368.2.1
theorem dL_law_370 : decode cL_law 370 = .ok (.iconst 2, 1) := dg_L_law_368.2.2.1
theorem dL_law_371 : decode cL_law 371 = .ok (.iadd, 1) := dg_L_law_368.2.2.2.1
theorem dL_law_372 : decode cL_law 372 = .ok (.iaload, 1) := dg_L_law_368.2.2.2.2.1
theorem dL_law_373 : decode cL_law 373 = .ok (.invokevirtual 31, 3) := dg_L_law_368.2.2.2.2.2.1
theorem dL_law_376 : decode cL_law 376 = .ok (.pop, 1) := dg_L_law_368.2.2.2.2.2.2.1
theorem dL_law_377 : decode cL_law 377 = .ok (.aload_n 2, 1) := dg_L_law_368.2.2.2.2.2.2.2.1
theorem dL_law_378 : decode cL_law 378 = .ok (.aload_n 0, 1) := dg_L_law_368.2.2.2.2.2.2.2.2.1
theorem dL_law_379 : decode cL_law 379 = .ok (.iload_n 3, 1) := dg_L_law_368.2.2.2.2.2.2.2.2.2.1
theorem dL_law_380 : decode cL_law 380 = .ok (.iconst 1, 1) := dg_L_law_368.2.2.2.2.2.2.2.2.2.2.1
theorem dL_law_381 : decode cL_law 381 = .ok (.iadd, 1) := dg_L_law_368.2.2.2.2.2.2.2.2.2.2.2.1
theorem dL_law_382 : decode cL_law 382 = .ok (.iaload, 1) := dg_L_law_368.2.2.2.2.2.2.2.2.2.2.2.2.1
theorem dL_law_383 : decode cL_law 383 = .ok (.aload_n 0, 1) := dg_L_law_368.2.2.2.2.2.2.2.2.2.2.2.2.2.1
theorem dL_law_384 : decode cL_law 384 = .ok (.iload_n 3, 1) := dg_L_law_368.2.2.2.2.2.2.2.2.2.2.2.2.2.2.1
theorem dL_law_385 : decode cL_law 385 = .ok (.iconst 2, 1) := dg_L_law_368.2.2.2.2.2.2.2.2.2.2.2.2.2.2.2
theorem dg_L_law_386 : (decode cL_law 386 = .ok (.iadd, 1)) ∧ (decode cL_law 387 = .ok (.iaload, 1)) ∧ (decode cL_law 388 = .ok (.invokevirtual 34, 3)) ∧ (decode cL_law 391 = .ok (.pop, 1)) ∧ (decode cL_law 392 = .ok (.goto 1479, 3)) ∧ (decode cL_law 395 = .ok (.aload_n 1, 1)) ∧ (decode cL_law 396 = .ok (.aload_n 0, 1)) ∧ (decode cL_law 397 = .ok (.iload_n 3, 1)) ∧ (decode cL_law 398 = .ok (.iconst 1, 1)) ∧ (decode cL_law 399 = .ok (.iadd, 1)) ∧ (decode cL_law 400 = .ok (.iaload, 1)) ∧ (decode cL_law 401 = .ok (.aload_n 0, 1)) ∧ (decode cL_law 402 = .ok (.iload_n 3, 1)) ∧ (decode cL_law 403 = .ok (.iconst 2, 1)) ∧ (decode cL_law 404 = .ok (.iadd, 1)) ∧ (decode cL_law 405 = .ok (.iaload, 1)) := by decide +kernel
theorem dL_law_386 : decode cL_law 386 = .ok (.iadd, 1) := dg_L_law_386.1
theorem dL_law_387 : decode cL_law 387 = .ok (.iaload, 1) := dg_L_law_386.2.1
theorem dL_law_388 : decode cL_law 388 = .ok (.invokevirtual 34, 3) := dg_L_law_386.2.2.1
theorem dL_law_391 : decode cL_law 391 = .ok (.pop, 1) := dg_L_law_386.2.2.2.1
theorem dL_law_392 : decode cL_law 392 = .ok (.goto 1479, 3) := dg_L_law_386.2.2.2.2.1
theorem dL_law_395 : decode cL_law 395 = .ok (.aload_n 1, 1) := dg_L_law_386.2.2.2.2.2.1
theorem dL_law_396 : decode cL_law 396 = .ok (.aload_n 0, 1) := dg_L_law_386.2.2.2.2.2.2.1
theorem dL_law_397 : decode cL_law 397 = .ok (.iload_n 3, 1) := dg_L_law_386.2.2.2.2.2.2.2.1
theorem dL_law_398 : decode cL_law 398 = .ok (.iconst 1, 1) := dg_L_law_386.2.2.2.2.2.2.2.2.1
theorem dL_law_399 : decode cL_law 399 = .ok (.iadd, 1) := dg_L_law_386.2.2.2.2.2.2.2.2.2.1
theorem dL_law_400 : decode cL_law 400 = .ok (.iaload, 1) := dg_L_law_386.2.2.2.2.2.2.2.2.2.2.1
theorem dL_law_401 : decode cL_law 401 = .ok (.aload_n 0, 1) := dg_L_law_386.2.2.2.2.2.2.2.2.2.2.2.1
theorem dL_law_402 : decode cL_law 402 = .ok (.iload_n 3, 1) := dg_L_law_386.2.2.2.2.2.2.2.2.2.2.2.2.1
theorem dL_law_403 : decode cL_law 403 = .ok (.iconst 2, 1) := dg_L_law_386.2.2.2.2.2.2.2.2.2.2.2.2.2.1
theorem dL_law_404 : decode cL_law 404 = .ok (.iadd, 1) := dg_L_law_386.2.2.2.2.2.2.2.2.2.2.2.2.2.2.1
theorem dL_law_405 : decode cL_law 405 = .ok (.iaload, 1) := dg_L_law_386.2.2.2.2.2.2.2.2.2.2.2.2.2.2.2
theorem dg_L_law_406 : (decode cL_law 406 = .ok (.invokevirtual 35, 3)) ∧ (decode cL_law 409 = .ok (.pop, 1)) ∧ (decode cL_law 410 = .ok (.aload_n 2, 1)) ∧ (decode cL_law 411 = .ok (.aload_n 0, 1)) ∧ (decode cL_law 412 = .ok (.iload_n 3, 1)) ∧ (decode cL_law 413 = .ok (.iconst 1, 1)) ∧ (decode cL_law 414 = .ok (.iadd, 1)) ∧ (decode cL_law 415 = .ok (.iaload, 1)) ∧ (decode cL_law 416 = .ok (.aload_n 0, 1)) ∧ (decode cL_law 417 = .ok (.iload_n 3, 1)) ∧ (decode cL_law 418 = .ok (.iconst 2, 1)) ∧ (decode cL_law 419 = .ok (.iadd, 1)) ∧ (decode cL_law 420 = .ok (.iaload, 1)) ∧ (decode cL_law 421 = .ok (.invokevirtual 38, 3)) ∧ (decode cL_law 424 = .ok (.pop, 1)) ∧ (decode cL_law 425 = .ok (.goto 1446, 3)) := by decide +kernel
theorem dL_law_406 : decode cL_law 406 = .ok (.invokevirtual 35, 3) := dg_L_law_406.1
theorem dL_law_409 : decode cL_law 409 = .ok (.pop, 1) := dg_L_law_406.2.1
theorem dL_law_410 : decode cL_law 410 = .ok (.aload_n 2, 1) := dg_L_law_406.2.2.1
theorem dL_law_411 : decode cL_law 411 = .ok (.aload_n 0, 1) := dg_L_law_406.2.2.2.1
theorem dL_law_412 : decode cL_law 412 = .ok (.iload_n 3, 1) := dg_L_law_406.2.2.2.2.1
theorem dL_law_413 : decode cL_law 413 = .ok (.iconst 1, 1) := dg_L_law_406.2.2.2.2.2.1
theorem dL_law_414 : decode cL_law 414 = .ok (.iadd, 1) := dg_L_law_406.2.2.2.2.2.2.1
theorem dL_law_415 : decode cL_law 415 = .ok (.iaload, 1) := dg_L_law_406.2.2.2.2.2.2.2.1
theorem dL_law_416 : decode cL_law 416 = .ok (.aload_n 0, 1) := dg_L_law_406.2.2.2.2.2.2.2.2.1
theorem dL_law_417 : decode cL_law 417 = .ok (.iload_n 3, 1) := dg_L_law_406.2.2.2.2.2.2.2.2.2.1
theorem dL_law_418 : decode cL_law 418 = .ok (.iconst 2, 1) := dg_L_law_406.2.2.2.2.2.2.2.2.2.2.1
theorem dL_law_419 : decode cL_law 419 = .ok (.iadd, 1) := dg_L_law_406.2.2.2.2.2.2.2.2.2.2.2.1
theorem dL_law_420 : decode cL_law 420 = .ok (.iaload, 1) := dg_L_law_406.2.2.2.2.2.2.2.2.2.2.2.2.1
theorem dL_law_421 : decode cL_law 421 = .ok (.invokevirtual 38, 3) := dg_L_law_406.2.2.2.2.2.2.2.2.2.2.2.2.2.1
theorem dL_law_424 : decode cL_law 424 = .ok (.pop, 1) := dg_L_law_406.2.2.2.2.2.2.2.2.2.2.2.2.2.2.1
theorem dL_law_425 : decode cL_law 425 = .ok (.goto 1446, 3) := dg_L_law_406.2.2.2.2.2.2.2.2.2.2.2.2.2.2.2
theorem dg_L_law_428 : (decode cL_law 428 = .ok (.aload_n 1, 1)) ∧ (decode cL_law 429 = .ok (.aload_n 0, 1)) ∧ (decode cL_law 430 = .ok (.iload_n 3, 1)) ∧ (decode cL_law 431 = .ok (.iconst 1, 1)) ∧ (decode cL_law 432 = .ok (.iadd, 1)) ∧ (decode cL_law 433 = .ok (.iaload, 1)) ∧ (decode cL_law 434 = .ok (.aload_n 0, 1)) ∧ (decode cL_law 435 = .ok (.iload_n 3, 1)) ∧ (decode cL_law 436 = .ok (.iconst 2, 1)) ∧ (decode cL_law 437 = .ok (.iadd, 1)) ∧ (decode cL_law 438 = .ok (.iaload, 1)) ∧ (decode cL_law 439 = .ok (.aload_n 0, 1)) ∧ (decode cL_law 440 = .ok (.iload_n 3, 1)) ∧ (decode cL_law 441 = .ok (.iconst 3, 1)) ∧ (decode cL_law 442 = .ok (.iadd, 1)) ∧ (decode cL_law 443 = .ok (.iaload, 1)) := by decide +kernel
theorem dL_law_428 : decode cL_law 428 = .ok (.aload_n 1, 1) := dg_L_law_428.1
theorem dL_law_429 : decode cL_law 429 = .ok (.aload_n 0, 1) := dg_L_law_428.2.1
theorem dL_law_430 : decode cL_law 430 = .ok (.iload_n 3, 1) := dg_L_law_428.2.2.1
theorem dL_law_431 : decode cL_law 431 = .ok (.iconst 1, 1) := dg_L_law_428.2.2.2.1
theorem dL_law_432 : decode cL_law 432 = .ok (.iadd, 1) := dg_L_law_428.2.2.2.2.1
theorem dL_law_433 : decode cL_law 433 = .ok (.iaload, 1) := dg_L_law_428.2.2.2.2.2.1
theorem dL_law_434 : decode cL_law 434 = .ok (.aload_n 0, 1) := dg_L_law_428.2.2.2.2.2.2.1
theorem dL_law_435 : decode cL_law 435 = .ok (.iload_n 3, 1) := dg_L_law_428.2.2.2.2.2.2.2.1
theorem dL_law_436 : decode cL_law 436 = .ok (.iconst 2, 1) := dg_L_law_428.2.2.2.2.2.2.2.2.1
theorem dL_law_437 : decode cL_law 437 = .ok (.iadd, 1) := dg_L_law_428.2.2.2.2.2.2.2.2.2.1
theorem dL_law_438 : decode cL_law 438 = .ok (.iaload, 1) := dg_L_law_428.2.2.2.2.2.2.2.2.2.2.1
theorem dL_law_439 : decode cL_law 439 = .ok (.aload_n 0, 1) := dg_L_law_428.2.2.2.2.2.2.2.2.2.2.2.1
theorem dL_law_440 : decode cL_law 440 = .ok (.iload_n 3, 1) := dg_L_law_428.2.2.2.2.2.2.2.2.2.2.2.2.1
theorem dL_law_441 : decode cL_law 441 = .ok (.iconst 3, 1) := dg_L_law_428.2.2.2.2.2.2.2.2.2.2.2.2.2.1
theorem dL_law_442 : decode cL_law 442 = .ok (.iadd, 1) := dg_L_law_428.2.2.2.2.2.2.2.2.2.2.2.2.2.2.1
theorem dL_law_443 : decode cL_law 443 = .ok (.iaload, 1) := dg_L_law_428.2.2.2.2.2.2.2.2.2.2.2.2.2.2.2
theorem dg_L_law_444 : (decode cL_law 444 = .ok (.invokevirtual 39, 3)) ∧ (decode cL_law 447 = .ok (.pop, 1)) ∧ (decode cL_law 448 = .ok (.aload_n 2, 1)) ∧ (decode cL_law 449 = .ok (.aload_n 0, 1)) ∧ (decode cL_law 450 = .ok (.iload_n 3, 1)) ∧ (decode cL_law 451 = .ok (.iconst 1, 1)) ∧ (decode cL_law 452 = .ok (.iadd, 1)) ∧ (decode cL_law 453 = .ok (.iaload, 1)) ∧ (decode cL_law 454 = .ok (.aload_n 0, 1)) ∧ (decode cL_law 455 = .ok (.iload_n 3, 1)) ∧ (decode cL_law 456 = .ok (.iconst 2, 1)) ∧ (decode cL_law 457 = .ok (.iadd, 1)) ∧ (decode cL_law 458 = .ok (.iaload, 1)) ∧ (decode cL_law 459 = .ok (.aload_n 0, 1)) ∧ (decode cL_law 460 = .ok (.iload_n 3, 1)) ∧ (decode cL_law 461 = .ok (.iconst 3, 1)) := by decide +kernel
theorem dL_law_444 : decode cL_law 444 = .ok (.invokevirtual 39, 3) := dg_L_law_444.1
theorem dL_law_447 : decode cL_law 447 = .ok (.pop, 1) := dg_L_law_444.2.1
theorem dL_law_448 : decode cL_law 448 = .ok (.aload_n 2, 1) := dg_L_law_444.2.2.1
theorem dL_law_449 : decode cL_law 449 = .ok (.aload_n 0, 1) := dg_L_law_444.2.2.2.1
theorem dL_law_450 : decode cL_law 450 = .ok (.iload_n 3, 1) := dg_L_law_444.2.2.2.2.1
theorem dL_law_451 : decode cL_law 451 = .ok (.iconst 1, 1) := dg_L_law_444.2.2.2.2.2.1
theorem dL_law_452 : decode cL_law 452 = .ok (.iadd, 1) := dg_L_law_444.2.2.2.2.2.2.1
theorem dL_law_453 : decode cL_law 453 = .ok (.iaload, 1) := dg_L_law_444.2.2.2.2.2.2.2.1
theorem dL_law_454 : decode cL_law 454 = .ok (.aload_n 0, 1) := dg_L_law_444.2.2.2.2.2.2.2.2.1
theorem dL_law_455 : decode cL_law 455 = .ok (.iload_n 3, 1) := dg_L_law_444.2.2.2.2.2.2.2.2.2.1
theorem dL_law_456 : decode cL_law 456 = .ok (.iconst 2, 1) := dg_L_law_444.2.2.2.2.2.2.2.2.2.2.1
theorem dL_law_457 : decode cL_law 457 = .ok (.iadd, 1) := dg_L_law_444.2.2.2.2.2.2.2.2.2.2.2.1
theorem dL_law_458 : decode cL_law 458 = .ok (.iaload, 1) := dg_L_law_444.2.2.2.2.2.2.2.2.2.2.2.2.1
theorem dL_law_459 : decode cL_law 459 = .ok (.aload_n 0, 1) := dg_L_law_444.2.2.2.2.2.2.2.2.2.2.2.2.2.1
theorem dL_law_460 : decode cL_law 460 = .ok (.iload_n 3, 1) := dg_L_law_444.2.2.2.2.2.2.2.2.2.2.2.2.2.2.1
theorem dL_law_461 : decode cL_law 461 = .ok (.iconst 3, 1) := dg_L_law_444.2.2.2.2.2.2.2.2.2.2.2.2.2.2.2
theorem dg_L_law_462 : (decode cL_law 462 = .ok (.iadd, 1)) ∧ (decode cL_law 463 = .ok (.iaload, 1)) ∧ (decode cL_law 464 = .ok (.invokevirtual 43, 3)) ∧ (decode cL_law 467 = .ok (.pop, 1)) ∧ (decode cL_law 468 = .ok (.goto 1403, 3)) ∧ (decode cL_law 471 = .ok (.aload_n 1, 1)) ∧ (decode cL_law 472 = .ok (.aload_n 0, 1)) ∧ (decode cL_law 473 = .ok (.iload_n 3, 1)) ∧ (decode cL_law 474 = .ok (.iconst 1, 1)) ∧ (decode cL_law 475 = .ok (.iadd, 1)) ∧ (decode cL_law 476 = .ok (.iaload, 1)) ∧ (decode cL_law 477 = .ok (.aload_n 0, 1)) ∧ (decode cL_law 478 = .ok (.iload_n 3, 1)) ∧ (decode cL_law 479 = .ok (.iconst 2, 1)) ∧ (decode cL_law 480 = .ok (.iadd, 1)) ∧ (decode cL_law 481 = .ok (.iaload, 1)) := by decide +kernel
theorem dL_law_462 : decode cL_law 462 = .ok (.iadd, 1) := dg_L_law_462.1
theorem dL_law_463 : decode cL_law 463 = .ok (.iaload, 1) := dg_L_law_462.2.1
theorem dL_law_464 : decode cL_law 464 = .ok (.invokevirtual 43, 3) := dg_L_law_462.2.2.1
theorem dL_law_467 : decode cL_law 467 = .ok (.pop, 1) := dg_L_law_462.2.2.2.1
theorem dL_law_468 : decode cL_law 468 = .ok (.goto 1403, 3) := dg_L_law_462.2.2.2.2.1
theorem dL_law_471 : decode cL_law 471 = .ok (.aload_n 1, 1) := dg_L_law_462.2.2.2.2.2.1
theorem dL_law_472 : decode cL_law 472 = .ok (.aload_n 0, 1) := dg_L_law_462.2.2.2.2.2.2.1
theorem dL_law_473 : decode cL_law 473 = .ok (.iload_n 3, 1) := dg_L_law_462.2.2.2.2.2.2.2.1
theorem dL_law_474 : decode cL_law 474 = .ok (.iconst 1, 1) := dg_L_law_462.2.2.2.2.2.2.2.2.1
theorem dL_law_475 : decode cL_law 475 = .ok (.iadd, 1) := dg_L_law_462.2.2.2.2.2.2.2.2.2.1
theorem dL_law_476 : decode cL_law 476 = .ok (.iaload, 1) := dg_L_law_462.2.2.2.2.2.2.2.2.2.2.1
theorem dL_law_477 : decode cL_law 477 = .ok (.aload_n 0, 1) := dg_L_law_462.2.2.2.2.2.2.2.2.2.2.2.1
theorem dL_law_478 : decode cL_law 478 = .ok (.iload_n 3, 1) := dg_L_law_462.2.2.2.2.2.2.2.2.2.2.2.2.1
theorem dL_law_479 : decode cL_law 479 = .ok (.iconst 2, 1) := dg_L_law_462.2.2.2.2.2.2.2.2.2.2.2.2.2.1
theorem dL_law_480 : decode cL_law 480 = .ok (.iadd, 1) := dg_L_law_462.2.2.2.2.2.2.2.2.2.2.2.2.2.2.1
theorem dL_law_481 : decode cL_law 481 = .ok (.iaload, 1) := dg_L_law_462.2.2.2.2.2.2.2.2.2.2.2.2.2.2.2
theorem dg_L_law_482 : (decode cL_law 482 = .ok (.aload_n 0, 1)) ∧ (decode cL_law 483 = .ok (.iload_n 3, 1)) ∧ (decode cL_law 484 = .ok (.iconst 3, 1)) ∧ (decode cL_law 485 = .ok (.iadd, 1)) ∧ (decode cL_law 486 = .ok (.iaload, 1)) ∧ (decode cL_law 487 = .ok (.aload_n 0, 1)) ∧ (decode cL_law 488 = .ok (.iload_n 3, 1)) ∧ (decode cL_law 489 = .ok (.iconst 4, 1)) ∧ (decode cL_law 490 = .ok (.iadd, 1)) ∧ (decode cL_law 491 = .ok (.iaload, 1)) ∧ (decode cL_law 492 = .ok (.aload_n 0, 1)) ∧ (decode cL_law 493 = .ok (.iload_n 3, 1)) ∧ (decode cL_law 494 = .ok (.iconst 5, 1)) ∧ (decode cL_law 495 = .ok (.iadd, 1)) ∧ (decode cL_law 496 = .ok (.iaload, 1)) ∧ (decode cL_law 497 = .ok (.aload_n 0, 1)) := by decide +kernel
theorem dL_law_482 : decode cL_law 482 = .ok (.aload_n 0, 1) := dg_L_law_482.1
theorem dL_law_483 : decode cL_law 483 = .ok (.iload_n 3, 1) := dg_L_law_482.2.1
theorem dL_law_484 : decode cL_law 484 = .ok (.iconst 3, 1) := dg_L_law_482.2.2.1
theorem dL_law_485 : decode cL_law 485 = .ok (.iadd, 1) := dg_L_law_482.2.2.2.1
theorem dL_law_486 : decode cL_law 486 = .ok (.iaload, 1) := dg_L_law_482.2.2.2.2.1
theorem dL_law_487 : decode cL_law 487 = .ok (.aload_n 0, 1) := dg_L_law_482.2.2.2.2.2.1
theorem dL_law_488 : decode cL_law 488 = .ok (.iload_n 3, 1) := dg_L_law_482.2.2.2.2.2.2.1
theorem dL_law_489 : decode cL_law 489 = .ok (.iconst 4, 1) := dg_L_law_482.2.2.2.2.2.2.2.1
theorem dL_law_490 : decode cL_law 490 = .ok (.iadd, 1) := dg_L_law_482.2.2.2.2.2.2.2.2.1
theorem dL_law_491 : decode cL_law 491 = .ok (.iaload, 1) := dg_L_law_482.2.2.2.2.2.2.2.2.2.1
theorem dL_law_492 : decode cL_law 492 = .ok (.aload_n 0, 1) := dg_L_law_482.2.2.2.2.2.2.2.2.2.2.1
theorem dL_law_493 : decode cL_law 493 = .ok (.iload_n 3, 1) := dg_L_law_482.2.2.2.2.2.2.2.2.2.2.2.1
theorem dL_law_494 : decode cL_law 494 = .ok (.iconst 5, 1) := dg_L_law_482.2.2.2.2.2.2.2.2.2.2.2.2.1
theorem dL_law_495 : decode cL_law 495 = .ok (.iadd, 1) := dg_L_law_482.2.2.2.2.2.2.2.2.2.2.2.2.2.1
theorem dL_law_496 : decode cL_law 496 = .ok (.iaload, 1) := dg_L_law_482.2.2.2.2.2.2.2.2.2.2.2.2.2.2.1
theorem dL_law_497 : decode cL_law 497 = .ok (.aload_n 0, 1) := dg_L_law_482.2.2.2.2.2.2.2.2.2.2.2.2.2.2.2
theorem dg_L_law_498 : (decode cL_law 498 = .ok (.iload_n 3, 1)) ∧ (decode cL_law 499 = .ok (.bipush 6, 2)) ∧ (decode cL_law 501 = .ok (.iadd, 1)) ∧ (decode cL_law 502 = .ok (.iaload, 1)) ∧ (decode cL_law 503 = .ok (.invokevirtual 44, 3)) ∧ (decode cL_law 506 = .ok (.pop2, 1)) ∧ (decode cL_law 507 = .ok (.aload_n 2, 1)) ∧ (decode cL_law 508 = .ok (.aload_n 0, 1)) ∧ (decode cL_law 509 = .ok (.iload_n 3, 1)) ∧ (decode cL_law 510 = .ok (.iconst 1, 1)) ∧ (decode cL_law 511 = .ok (.iadd, 1)) ∧ (decode cL_law 512 = .ok (.iaload, 1)) ∧ (decode cL_law 513 = .ok (.aload_n 0, 1)) ∧ (decode cL_law 514 = .ok (.iload_n 3, 1)) ∧ (decode cL_law 515 = .ok (.iconst 2, 1)) ∧ (decode cL_law 516 = .ok (.iadd, 1)) := by decide +kernel
theorem dL_law_498 : decode cL_law 498 = .ok (.iload_n 3, 1) := dg_L_law_498.1
theorem dL_law_499 : decode cL_law 499 = .ok (.bipush 6, 2) := dg_L_law_498.2.1
theorem dL_law_501 : decode cL_law 501 = .ok (.iadd, 1) := dg_L_law_498.2.2.1
theorem dL_law_502 : decode cL_law 502 = .ok (.iaload, 1) := dg_L_law_498.2.2.2.1
theorem dL_law_503 : decode cL_law 503 = .ok (.invokevirtual 44, 3) := dg_L_law_498.2.2.2.2.1
theorem dL_law_506 : decode cL_law 506 = .ok (.pop2, 1) := dg_L_law_498.2.2.2.2.2.1
theorem dL_law_507 : decode cL_law 507 = .ok (.aload_n 2, 1) := dg_L_law_498.2.2.2.2.2.2.1
theorem dL_law_508 : decode cL_law 508 = .ok (.aload_n 0, 1) := dg_L_law_498.2.2.2.2.2.2.2.1
theorem dL_law_509 : decode cL_law 509 = .ok (.iload_n 3, 1) := dg_L_law_498.2.2.2.2.2.2.2.2.1
theorem dL_law_510 : decode cL_law 510 = .ok (.iconst 1, 1) := dg_L_law_498.2.2.2.2.2.2.2.2.2.1
theorem dL_law_511 : decode cL_law 511 = .ok (.iadd, 1) := dg_L_law_498.2.2.2.2.2.2.2.2.2.2.1
theorem dL_law_512 : decode cL_law 512 = .ok (.iaload, 1) := dg_L_law_498.2.2.2.2.2.2.2.2.2.2.2.1
theorem dL_law_513 : decode cL_law 513 = .ok (.aload_n 0, 1) := dg_L_law_498.2.2.2.2.2.2.2.2.2.2.2.2.1
theorem dL_law_514 : decode cL_law 514 = .ok (.iload_n 3, 1) := dg_L_law_498.2.2.2.2.2.2.2.2.2.2.2.2.2.1
theorem dL_law_515 : decode cL_law 515 = .ok (.iconst 2, 1) := dg_L_law_498.2.2.2.2.2.2.2.2.2.2.2.2.2.2.1
theorem dL_law_516 : decode cL_law 516 = .ok (.iadd, 1) := dg_L_law_498.2.2.2.2.2.2.2.2.2.2.2.2.2.2.2
theorem dg_L_law_517 : (decode cL_law 517 = .ok (.iaload, 1)) ∧ (decode cL_law 518 = .ok (.aload_n 0, 1)) ∧ (decode cL_law 519 = .ok (.iload_n 3, 1)) ∧ (decode cL_law 520 = .ok (.iconst 3, 1)) ∧ (decode cL_law 521 = .ok (.iadd, 1)) ∧ (decode cL_law 522 = .ok (.iaload, 1)) ∧ (decode cL_law 523 = .ok (.aload_n 0, 1)) ∧ (decode cL_law 524 = .ok (.iload_n 3, 1)) ∧ (decode cL_law 525 = .ok (.iconst 4, 1)) ∧ (decode cL_law 526 = .ok (.iadd, 1)) ∧ (decode cL_law 527 = .ok (.iaload, 1)) ∧ (decode cL_law 528 = .ok (.aload_n 0, 1)) ∧ (decode cL_law 529 = .ok (.iload_n 3, 1)) ∧ (decode cL_law 530 = .ok (.iconst 5, 1)) ∧ (decode cL_law 531 = .ok (.iadd, 1)) ∧ (decode cL_law 532 = .ok (.iaload, 1)) := by decide +kernel
theorem dL_law_517 : decode cL_law 517 = .ok (.iaload, 1) := dg_L_law_517.1
theorem dL_law_518 : decode cL_law 518 = .ok (.aload_n 0, 1) := dg_L_law_517.2.1
theorem dL_law_519 : decode cL_law 519 = .ok (.iload_n 3, 1) := dg_L_law_517.2.2.1
theorem dL_law_520 : decode cL_law 520 = .ok (.iconst 3, 1) := dg_L_law_517.2.2.2.1
theorem dL_law_521 : decode cL_law 521 = .ok (.iadd, 1) := dg_L_law_517.2.2.2.2.1
theorem dL_law_522 : decode cL_law 522 = .ok (.iaload, 1) := dg_L_law_517.2.2.2.2.2.1
theorem dL_law_523 : decode cL_law 523 = .ok (.aload_n 0, 1) := dg_L_law_517.2.2.2.2.2.2.1
theorem dL_law_524 : decode cL_law 524 = .ok (.iload_n 3, 1) := dg_L_law_517.2.2.2.2.2.2.2.1
theorem dL_law_525 : decode cL_law 525 = .ok (.iconst 4, 1) := dg_L_law_517.2.2.2.2.2.2.2.2.1
theorem dL_law_526 : decode cL_law 526 = .ok (.iadd, 1) := dg_L_law_517.2.2.2.2.2.2.2.2.2.1
theorem dL_law_527 : decode cL_law 527 = .ok (.iaload, 1) := dg_L_law_517.2.2.2.2.2.2.2.2.2.2.1
theorem dL_law_528 : decode cL_law 528 = .ok (.aload_n 0, 1) := dg_L_law_517.2.2.2.2.2.2.2.2.2.2.2.1
theorem dL_law_529 : decode cL_law 529 = .ok (.iload_n 3, 1) := dg_L_law_517.2.2.2.2.2.2.2.2.2.2.2.2.1
theorem dL_law_530 : decode cL_law 530 = .ok (.iconst 5, 1) := dg_L_law_517.2.2.2.2.2.2.2.2.2.2.2.2.2.1
theorem dL_law_531 : decode cL_law 531 = .ok (.iadd, 1) := dg_L_law_517.2.2.2.2.2.2.2.2.2.2.2.2.2.2.1
theorem dL_law_532 : decode cL_law 532 = .ok (.iaload, 1) := dg_L_law_517.2.2.2.2.2.2.2.2.2.2.2.2.2.2.2
theorem dg_L_law_533 : (decode cL_law 533 = .ok (.aload_n 0, 1)) ∧ (decode cL_law 534 = .ok (.iload_n 3, 1)) ∧ (decode cL_law 535 = .ok (.bipush 6, 2)) ∧ (decode cL_law 537 = .ok (.iadd, 1)) ∧ (decode cL_law 538 = .ok (.iaload, 1)) ∧ (decode cL_law 539 = .ok (.invokevirtual 48, 3)) ∧ (decode cL_law 542 = .ok (.pop2, 1)) ∧ (decode cL_law 543 = .ok (.goto 1328, 3)) ∧ (decode cL_law 546 = .ok (.aload_n 1, 1)) ∧ (decode cL_law 547 = .ok (.aload_n 0, 1)) ∧ (decode cL_law 548 = .ok (.iload_n 3, 1)) ∧ (decode cL_law 549 = .ok (.iconst 1, 1)) ∧ (decode cL_law 550 = .ok (.iadd, 1)) ∧ (decode cL_law 551 = .ok (.iaload, 1)) ∧ (decode cL_law 552 = .ok (.aload_n 0, 1)) ∧ (decode cL_law 553 = .ok (.iload_n 3, 1)) := by decide +kernel
theorem dL_law_533 : decode cL_law 533 = .ok (.aload_n 0, 1) := dg_L_law_533.1
theorem dL_law_534 : decode cL_law 534 = .ok (.iload_n 3, 1) := dg_L_law_533.2.1
theorem dL_law_535 : decode cL_law 535 = .ok (.bipush 6, 2) := dg_L_law_533.2.2.1
theorem dL_law_537 : decode cL_law 537 = .ok (.iadd, 1) := dg_L_law_533.2.2.2.1
theorem dL_law_538 : decode cL_law 538 = .ok (.iaload, 1) := dg_L_law_533.2.2.2.2.1
theorem dL_law_539 : decode cL_law 539 = .ok (.invokevirtual 48, 3) := dg_L_law_533.2.2.2.2.2.1
theorem dL_law_542 : decode cL_law 542 = .ok (.pop2, 1) := dg_L_law_533.2.2.2.2.2.2.1
theorem dL_law_543 : decode cL_law 543 = .ok (.goto 1328, 3) := dg_L_law_533.2.2.2.2.2.2.2.1
theorem dL_law_546 : decode cL_law 546 = .ok (.aload_n 1, 1) := dg_L_law_533.2.2.2.2.2.2.2.2.1
theorem dL_law_547 : decode cL_law 547 = .ok (.aload_n 0, 1) := dg_L_law_533.2.2.2.2.2.2.2.2.2.1
theorem dL_law_548 : decode cL_law 548 = .ok (.iload_n 3, 1) := dg_L_law_533.2.2.2.2.2.2.2.2.2.2.1
theorem dL_law_549 : decode cL_law 549 = .ok (.iconst 1, 1) := dg_L_law_533.2.2.2.2.2.2.2.2.2.2.2.1
theorem dL_law_550 : decode cL_law 550 = .ok (.iadd, 1) := dg_L_law_533.2.2.2.2.2.2.2.2.2.2.2.2.1
theorem dL_law_551 : decode cL_law 551 = .ok (.iaload, 1) := dg_L_law_533.2.2.2.2.2.2.2.2.2.2.2.2.2.1
theorem dL_law_552 : decode cL_law 552 = .ok (.aload_n 0, 1) := dg_L_law_533.2.2.2.2.2.2.2.2.2.2.2.2.2.2.1
theorem dL_law_553 : decode cL_law 553 = .ok (.iload_n 3, 1) := dg_L_law_533.2.2.2.2.2.2.2.2.2.2.2.2.2.2.2
theorem dg_L_law_554 : (decode cL_law 554 = .ok (.iconst 2, 1)) ∧ (decode cL_law 555 = .ok (.iadd, 1)) ∧ (decode cL_law 556 = .ok (.iaload, 1)) ∧ (decode cL_law 557 = .ok (.aload_n 0, 1)) ∧ (decode cL_law 558 = .ok (.iload_n 3, 1)) ∧ (decode cL_law 559 = .ok (.iconst 3, 1)) ∧ (decode cL_law 560 = .ok (.iadd, 1)) ∧ (decode cL_law 561 = .ok (.iaload, 1)) ∧ (decode cL_law 562 = .ok (.aload_n 0, 1)) ∧ (decode cL_law 563 = .ok (.iload_n 3, 1)) ∧ (decode cL_law 564 = .ok (.iconst 4, 1)) ∧ (decode cL_law 565 = .ok (.iadd, 1)) ∧ (decode cL_law 566 = .ok (.iaload, 1)) ∧ (decode cL_law 567 = .ok (.aload_n 0, 1)) ∧ (decode cL_law 568 = .ok (.iload_n 3, 1)) ∧ (decode cL_law 569 = .ok (.iconst 5, 1)) := by decide +kernel
theorem dL_law_554 : decode cL_law 554 = .ok (.iconst 2, 1) := dg_L_law_554.1
theorem dL_law_555 : decode cL_law 555 = .ok (.iadd, 1) := dg_L_law_554.2.1
theorem dL_law_556 : decode cL_law 556 = .ok (.iaload, 1) := dg_L_law_554.2.2.1
theorem dL_law_557 : decode cL_law 557 = .ok (.aload_n 0, 1) := dg_L_law_554.2.2.2.1
theorem dL_law_558 : decode cL_law 558 = .ok (.iload_n 3, 1) := dg_L_law_554.2.2.2.2.1
theorem dL_law_559 : decode cL_law 559 = .ok (.iconst 3, 1) := dg_L_law_554.2.2.2.2.2.1
theorem dL_law_560 : decode cL_law 560 = .ok (.iadd, 1) := dg_L_law_554.2.2.2.2.2.2.1
theorem dL_law_561 : decode cL_law 561 = .ok (.iaload, 1) := dg_L_law_554.2.2.2.2.2.2.2.1
theorem dL_law_562 : decode cL_law 562 = .ok (.aload_n 0, 1) := dg_L_law_554.2.2.2.2.2.2.2.2.1
theorem dL_law_563 : decode cL_law 563 = .ok (.iload_n 3, 1) := dg_L_law_554.2.2.2.2.2.2.2.2.2.1
theorem dL_law_564 : decode cL_law 564 = .ok (.iconst 4, 1) := dg_L_law_554.2.2.2.2.2.2.2.2.2.2.1
theorem dL_law_565 : decode cL_law 565 = .ok (.iadd, 1) := dg_L_law_554.2.2.2.2.2.2.2.2.2.2.2.1
theorem dL_law_566 : decode cL_law 566 = .ok (.iaload, 1) := dg_L_law_554.2.2.2.2.2.2.2.2.2.2.2.2.1
theorem dL_law_567 : decode cL_law 567 = .ok (.aload_n 0, 1) := dg_L_law_554.2.2.2.2.2.2.2.2.2.2.2.2.2.1
theorem dL_law_568 : decode cL_law 568 = .ok (.iload_n 3, 1) := dg_L_law_554.2.2.2.2.2.2.2.2.2.2.2.2.2.2.1
theorem dL_law_569 : decode cL_law 569 = .ok (.iconst 5, 1) := dg_L_law_554.2.2.2.2.2.2.2.2.2.2.2.2.2.2.2
theorem dg_L_law_570 : (decode cL_law 570 = .ok (.iadd, 1)) ∧ (decode cL_law 571 = .ok (.iaload, 1)) ∧ (decode cL_law 572 = .ok (.aload_n 0, 1)) ∧ (decode cL_law 573 = .ok (.iload_n 3, 1)) ∧ (decode cL_law 574 = .ok (.bipush 6, 2)) ∧ (decode cL_law 576 = .ok (.iadd, 1)) ∧ (decode cL_law 577 = .ok (.iaload, 1)) ∧ (decode cL_law 578 = .ok (.aload_n 0, 1)) ∧ (decode cL_law 579 = .ok (.iload_n 3, 1)) ∧ (decode cL_law 580 = .ok (.bipush 7, 2)) ∧ (decode cL_law 582 = .ok (.iadd, 1)) ∧ (decode cL_law 583 = .ok (.iaload, 1)) ∧ (decode cL_law 584 = .ok (.i2l, 1)) ∧ (decode cL_law 585 = .ok (.bipush 32, 2)) ∧ (decode cL_law 587 = .ok (.lshl, 1)) ∧ (decode cL_law 588 = .ok (.aload_n 0, 1)) := by decide +kernel
theorem dL_law_570 : decode cL_law 570 = .ok (.iadd, 1) := dg_L_law_570.1
theorem dL_law_571 : decode cL_law 571 = .ok (.iaload, 1) := dg_L_law_570.2.1
theorem dL_law_572 : decode cL_law 572 = .ok (.aload_n 0, 1) := dg_L_law_570.2.2.1
theorem dL_law_573 : decode cL_law 573 = .ok (.iload_n 3, 1) := dg_L_law_570.2.2.2.1
theorem dL_law_574 : decode cL_law 574 = .ok (.bipush 6, 2) := dg_L_law_570.2.2.2.2.1
theorem dL_law_576 : decode cL_law 576 = .ok (.iadd, 1) := dg_L_law_570.2.2.2.2.2.1
theorem dL_law_577 : decode cL_law 577 = .ok (.iaload, 1) := dg_L_law_570.2.2.2.2.2.2.1
theorem dL_law_578 : decode cL_law 578 = .ok (.aload_n 0, 1) := dg_L_law_570.2.2.2.2.2.2.2.1
theorem dL_law_579 : decode cL_law 579 = .ok (.iload_n 3, 1) := dg_L_law_570.2.2.2.2.2.2.2.2.1
theorem dL_law_580 : decode cL_law 580 = .ok (.bipush 7, 2) := dg_L_law_570.2.2.2.2.2.2.2.2.2.1
theorem dL_law_582 : decode cL_law 582 = .ok (.iadd, 1) := dg_L_law_570.2.2.2.2.2.2.2.2.2.2.1
theorem dL_law_583 : decode cL_law 583 = .ok (.iaload, 1) := dg_L_law_570.2.2.2.2.2.2.2.2.2.2.2.1
theorem dL_law_584 : decode cL_law 584 = .ok (.i2l, 1) := dg_L_law_570.2.2.2.2.2.2.2.2.2.2.2.2.1
theorem dL_law_585 : decode cL_law 585 = .ok (.bipush 32, 2) := dg_L_law_570.2.2.2.2.2.2.2.2.2.2.2.2.2.1
theorem dL_law_587 : decode cL_law 587 = .ok (.lshl, 1) := dg_L_law_570.2.2.2.2.2.2.2.2.2.2.2.2.2.2.1
theorem dL_law_588 : decode cL_law 588 = .ok (.aload_n 0, 1) := dg_L_law_570.2.2.2.2.2.2.2.2.2.2.2.2.2.2.2
