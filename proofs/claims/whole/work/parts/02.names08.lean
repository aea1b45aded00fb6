theorem dX14_does_192 : decode cX14_does 192 = .ok (.invokevirtual 184, 3) := by decide +kernel
theorem dX14_does_195 : decode cX14_does 195 = .ok (.ireturn, 1) := by decide +kernel
theorem dX14_does_196 : decode cX14_does 196 = .ok (.aload_n 0, 1) := by decide +kernel
theorem dX14_does_197 : decode cX14_does 197 = .ok (.aload_n 0, 1) := by decide +kernel
theorem dX14_does_198 : decode cX14_does 198 = .ok (.getfield 17, 3) := by decide +kernel
theorem dX14_does_201 : decode cX14_does 201 = .ok (.aload_n 2, 1) := by decide +kernel
theorem dX14_does_202 : decode cX14_does 202 = .ok (.iconst 0, 1) := by decide +kernel
theorem dX14_does_203 : decode cX14_does 203 = .ok (.iaload, 1) := by decide +kernel
theorem dX14_does_204 : decode cX14_does 204 = .ok (.aaload, 1) := by decide +kernel
theorem dX14_does_205 : decode cX14_does 205 = .ok (.aload_n 0, 1) := by decide +kernel
theorem dX14_does_206 : decode cX14_does 206 = .ok (.getfield 3, 3) := by decide +kernel
theorem dX14_does_209 : decode cX14_does 209 = .ok (.getfield 170, 3) := by decide +kernel
theorem dX14_does_212 : decode cX14_does 212 = .ok (.aload_n 2, 1) := by decide +kernel
theorem dX14_does_213 : decode cX14_does 213 = .ok (.iconst 1, 1) := by decide +kernel
theorem dX14_does_214 : decode cX14_does 214 = .ok (.iaload, 1) := by decide +kernel
theorem dX14_does_215 : decode cX14_does 215 = .ok (.invokeinterface 120 2, 5) := by decide +kernel
theorem dX14_does_220 : decode cX14_does 220 = .ok (.checkcast 125, 3) := by decide +kernel
theorem dX14_does_223 : decode cX14_does 223 = .ok (.invokevirtual 188, 3) := by decide +kernel
theorem dX14_does_226 : decode cX14_does 226 = .ok (.ireturn, 1) := by decide +kernel
theorem dX14_does_227 : decode cX14_does 227 = .ok (.aload_n 0, 1) := by decide +kernel
theorem dX14_does_228 : decode cX14_does 228 = .ok (.aload_n 0, 1) := by decide +kernel
theorem dX14_does_229 : decode cX14_does 229 = .ok (.getfield 17, 3) := by decide +kernel
theorem dX14_does_232 : decode cX14_does 232 = .ok (.aload_n 2, 1) := by decide +kernel
theorem dX14_does_233 : decode cX14_does 233 = .ok (.iconst 0, 1) := by decide +kernel
theorem dX14_does_234 : decode cX14_does 234 = .ok (.iaload, 1) := by decide +kernel
theorem dX14_does_235 : decode cX14_does 235 = .ok (.aaload, 1) := by decide +kernel
theorem dX14_does_236 : decode cX14_does 236 = .ok (.aload_n 0, 1) := by decide +kernel
theorem dX14_does_237 : decode cX14_does 237 = .ok (.getfield 3, 3) := by decide +kernel
theorem dX14_does_240 : decode cX14_does 240 = .ok (.getfield 170, 3) := by decide +kernel
theorem dX14_does_243 : decode cX14_does 243 = .ok (.aload_n 2, 1) := by decide +kernel
theorem dX14_does_244 : decode cX14_does 244 = .ok (.iconst 1, 1) := by decide +kernel
theorem dX14_does_245 : decode cX14_does 245 = .ok (.iaload, 1) := by decide +kernel
theorem dX14_does_246 : decode cX14_does 246 = .ok (.invokeinterface 120 2, 5) := by decide +kernel
theorem dX14_does_251 : decode cX14_does 251 = .ok (.checkcast 125, 3) := by decide +kernel
theorem dX14_does_254 : decode cX14_does 254 = .ok (.aload_n 2, 1) := by decide +kernel
theorem dX14_does_255 : decode cX14_does 255 = .ok (.iconst 2, 1) := by decide +kernel
theorem dX14_does_256 : decode cX14_does 256 = .ok (.iaload, 1) := by decide +kernel
theorem dX14_does_257 : decode cX14_does 257 = .ok (.invokevirtual 192, 3) := by decide +kernel
theorem dX14_does_260 : decode cX14_does 260 = .ok (.ireturn, 1) := by decide +kernel
theorem dX14_does_261 : decode cX14_does 261 = .ok (.aload_n 0, 1) := by decide +kernel
theorem dX14_does_262 : decode cX14_does 262 = .ok (.getfield 17, 3) := by decide +kernel
theorem dX14_does_265 : decode cX14_does 265 = .ok (.aload_n 2, 1) := by decide +kernel
theorem dX14_does_266 : decode cX14_does 266 = .ok (.iconst 0, 1) := by decide +kernel
theorem dX14_does_267 : decode cX14_does 267 = .ok (.iaload, 1) := by decide +kernel
theorem dX14_does_268 : decode cX14_does 268 = .ok (.aaload, 1) := by decide +kernel
theorem dX14_does_269 : decode cX14_does 269 = .ok (.iconst 0, 1) := by decide +kernel
theorem dX14_does_270 : decode cX14_does 270 = .ok (.aload_n 0, 1) := by decide +kernel
theorem dX14_does_271 : decode cX14_does 271 = .ok (.getfield 17, 3) := by decide +kernel
theorem dX14_does_274 : decode cX14_does 274 = .ok (.aload_n 2, 1) := by decide +kernel
theorem dX14_does_275 : decode cX14_does 275 = .ok (.iconst 0, 1) := by decide +kernel
theorem dX14_does_276 : decode cX14_does 276 = .ok (.iaload, 1) := by decide +kernel
theorem dX14_does_277 : decode cX14_does 277 = .ok (.aaload, 1) := by decide +kernel
theorem dX14_does_278 : decode cX14_does 278 = .ok (.getfield 44, 3) := by decide +kernel
theorem dX14_does_281 : decode cX14_does 281 = .ok (.bipush 30, 2) := by decide +kernel
theorem dX14_does_283 : decode cX14_does 283 = .ok (.isub, 1) := by decide +kernel
theorem dX14_does_284 : decode cX14_does 284 = .ok (.invokestatic 99, 3) := by decide +kernel
theorem dX14_does_287 : decode cX14_does 287 = .ok (.putfield 44, 3) := by decide +kernel
theorem dX14_does_290 : decode cX14_does 290 = .ok (.aload_n 0, 1) := by decide +kernel
theorem dX14_does_291 : decode cX14_does 291 = .ok (.getfield 17, 3) := by decide +kernel
theorem dX14_does_294 : decode cX14_does 294 = .ok (.aload_n 2, 1) := by decide +kernel
theorem dX14_does_295 : decode cX14_does 295 = .ok (.iconst 0, 1) := by decide +kernel
theorem dX14_does_296 : decode cX14_does 296 = .ok (.iaload, 1) := by decide +kernel
theorem dX14_does_297 : decode cX14_does 297 = .ok (.aaload, 1) := by decide +kernel
theorem dX14_does_298 : decode cX14_does 298 = .ok (.getfield 44, 3) := by decide +kernel
theorem dX14_does_301 : decode cX14_does 301 = .ok (.ireturn, 1) := by decide +kernel
theorem dX14_does_302 : decode cX14_does 302 = .ok (.aload_n 0, 1) := by decide +kernel
theorem dX14_does_303 : decode cX14_does 303 = .ok (.aload_n 2, 1) := by decide +kernel
theorem dX14_does_304 : decode cX14_does 304 = .ok (.invokevirtual 196, 3) := by decide +kernel
theorem dX14_does_307 : decode cX14_does 307 = .ok (.ireturn, 1) := by decide +kernel
set_option maxRecDepth 20000 in
theorem ggX14_lays_Jx4a65c_size_8abf5 : GoodIn wsX14_lays wsJx4a65c_size_8abf5 := goodIn_r _ [10, 11, 100, 101, 102] (by decide +kernel) (by decide +kernel)
set_option maxRecDepth 20000 in
theorem gX14_lays_Jx4a65c_size_8abf5_f115Jx4a65c : GoodIn wsX14_lays (va_wsF RX14 115 RJx4a65c ⟨"java/util/List", "size", "()I"⟩ yJx4a65c_size_8abf5 wsJx4a65c_size_8abf5) := goodIn_app (goodIn_of _ (by decide +kernel)) ggX14_lays_Jx4a65c_size_8abf5
set_option maxRecDepth 20000 in
theorem ggX14_lays_X13_init : GoodIn wsX14_lays wsX13_init := goodIn_r _ [14, 15, 16, 17, 18, 19, 20, 21, 85, 86, 87, 88, 89] (by decide +kernel) (by decide +kernel)
set_option maxRecDepth 20000 in
theorem gX14_lays_X13_init : GoodIn wsX14_lays (wsX13_init) := ggX14_lays_X13_init
set_option maxRecDepth 20000 in
theorem ggX14_lays_Jx4a65c_add_9ea2d : GoodIn wsX14_lays wsJx4a65c_add_9ea2d := goodIn_r _ [25, 26, 27, 28, 11, 29, 30, 31, 9, 32, 33, 34, 35, 36, 37, 38, 39, 40, 41, 42, 43, 44, 45, 46, 47, 48, 49, 50, 51, 52, 53, 54, 55, 56, 57, 58, 59, 60, 61, 62, 63, 64, 65, 66, 67, 68, 69, 70, 71, 72, 73, 74, 75, 100, 101, 102] (by decide +kernel) (by decide +kernel)
set_option maxRecDepth 20000 in
theorem gX14_lays_Jx4a65c_add_9ea2d_f83Jx4a65c : GoodIn wsX14_lays (va_wsF RX14 83 RJx4a65c ⟨"java/util/List", "add", "(Ljava/lang/Object;)Z"⟩ yJx4a65c_add_9ea2d wsJx4a65c_add_9ea2d) := goodIn_app (goodIn_of _ (by decide +kernel)) ggX14_lays_Jx4a65c_add_9ea2d
theorem dX14_lays_0 : decode cX14_lays 0 = .ok (.iconst 0, 1) := by decide +kernel
theorem dX14_lays_1 : decode cX14_lays 1 = .ok (.istore_n 3, 1) := by decide +kernel
theorem dX14_lays_2 : decode cX14_lays 2 = .ok (.aload_n 2, 1) := by decide +kernel
theorem dX14_lays_3 : decode cX14_lays 3 = .ok (.iconst 3, 1) := by decide +kernel
theorem dX14_lays_4 : decode cX14_lays 4 = .ok (.iaload, 1) := by decide +kernel
theorem dX14_lays_5 : decode cX14_lays 5 = .ok (.istore 4, 2) := by decide +kernel
theorem dX14_lays_7 : decode cX14_lays 7 = .ok (.iload 4, 2) := by decide +kernel
theorem dX14_lays_9 : decode cX14_lays 9 = .ok (.aload_n 2, 1) := by decide +kernel
theorem dX14_lays_10 : decode cX14_lays 10 = .ok (.iconst 5, 1) := by decide +kernel
theorem dX14_lays_11 : decode cX14_lays 11 = .ok (.iaload, 1) := by decide +kernel
theorem dX14_lays_12 : decode cX14_lays 12 = .ok (.if_icmp .gt 59, 3) := by decide +kernel
theorem dX14_lays_15 : decode cX14_lays 15 = .ok (.aload_n 2, 1) := by decide +kernel
theorem dX14_lays_16 : decode cX14_lays 16 = .ok (.iconst 2, 1) := by decide +kernel
theorem dX14_lays_17 : decode cX14_lays 17 = .ok (.iaload, 1) := by decide +kernel
theorem dX14_lays_18 : decode cX14_lays 18 = .ok (.istore 5, 2) := by decide +kernel
theorem dX14_lays_20 : decode cX14_lays 20 = .ok (.iload 5, 2) := by decide +kernel
theorem dX14_lays_22 : decode cX14_lays 22 = .ok (.aload_n 2, 1) := by decide +kernel
theorem dX14_lays_23 : decode cX14_lays 23 = .ok (.iconst 4, 1) := by decide +kernel
theorem dX14_lays_24 : decode cX14_lays 24 = .ok (.iaload, 1) := by decide +kernel
theorem dX14_lays_25 : decode cX14_lays 25 = .ok (.if_icmp .gt 40, 3) := by decide +kernel
theorem dX14_lays_28 : decode cX14_lays 28 = .ok (.aload_n 0, 1) := by decide +kernel
theorem dX14_lays_29 : decode cX14_lays 29 = .ok (.getfield 17, 3) := by decide +kernel
theorem dX14_lays_32 : decode cX14_lays 32 = .ok (.bipush 8, 2) := by decide +kernel
theorem dX14_lays_34 : decode cX14_lays 34 = .ok (.iload 4, 2) := by decide +kernel
theorem dX14_lays_36 : decode cX14_lays 36 = .ok (.imul, 1) := by decide +kernel
theorem dX14_lays_37 : decode cX14_lays 37 = .ok (.iload 5, 2) := by decide +kernel
theorem dX14_lays_39 : decode cX14_lays 39 = .ok (.iadd, 1) := by decide +kernel
theorem dX14_lays_40 : decode cX14_lays 40 = .ok (.aaload, 1) := by decide +kernel
theorem dX14_lays_41 : decode cX14_lays 41 = .ok (.getfield 47, 3) := by decide +kernel
theorem dX14_lays_44 : decode cX14_lays 44 = .ok (.invokeinterface 115 1, 5) := by decide +kernel
theorem dX14_lays_49 : decode cX14_lays 49 = .ok (.bipush 9, 2) := by decide +kernel
theorem dX14_lays_51 : decode cX14_lays 51 = .ok (.if_icmp .ne 5, 3) := by decide +kernel
theorem dX14_lays_54 : decode cX14_lays 54 = .ok (.iconst (-1), 1) := by decide +kernel
theorem dX14_lays_55 : decode cX14_lays 55 = .ok (.ireturn, 1) := by decide +kernel
theorem dX14_lays_56 : decode cX14_lays 56 = .ok (.iinc 3 1, 3) := by decide +kernel
theorem dX14_lays_59 : decode cX14_lays 59 = .ok (.iinc 5 1, 3) := by decide +kernel
theorem dX14_lays_62 : decode cX14_lays 62 = .ok (.goto (-42), 3) := by decide +kernel
theorem dX14_lays_65 : decode cX14_lays 65 = .ok (.iinc 4 1, 3) := by decide +kernel
theorem dX14_lays_68 : decode cX14_lays 68 = .ok (.goto (-61), 3) := by decide +kernel
theorem dX14_lays_71 : decode cX14_lays 71 = .ok (.aload_n 2, 1) := by decide +kernel
theorem dX14_lays_72 : decode cX14_lays 72 = .ok (.iconst 3, 1) := by decide +kernel
theorem dX14_lays_73 : decode cX14_lays 73 = .ok (.iaload, 1) := by decide +kernel
theorem dX14_lays_74 : decode cX14_lays 74 = .ok (.istore 4, 2) := by decide +kernel
theorem dX14_lays_76 : decode cX14_lays 76 = .ok (.iload 4, 2) := by decide +kernel
theorem dX14_lays_78 : decode cX14_lays 78 = .ok (.aload_n 2, 1) := by decide +kernel
theorem dX14_lays_79 : decode cX14_lays 79 = .ok (.iconst 5, 1) := by decide +kernel
theorem dX14_lays_80 : decode cX14_lays 80 = .ok (.iaload, 1) := by decide +kernel
theorem dX14_lays_81 : decode cX14_lays 81 = .ok (.if_icmp .gt 69, 3) := by decide +kernel
theorem dX14_lays_84 : decode cX14_lays 84 = .ok (.aload_n 2, 1) := by decide +kernel
theorem dX14_lays_85 : decode cX14_lays 85 = .ok (.iconst 2, 1) := by decide +kernel
theorem dX14_lays_86 : decode cX14_lays 86 = .ok (.iaload, 1) := by decide +kernel
theorem dX14_lays_87 : decode cX14_lays 87 = .ok (.istore 5, 2) := by decide +kernel
theorem dX14_lays_89 : decode cX14_lays 89 = .ok (.iload 5, 2) := by decide +kernel
theorem dX14_lays_91 : decode cX14_lays 91 = .ok (.aload_n 2, 1) := by decide +kernel
theorem dX14_lays_92 : decode cX14_lays 92 = .ok (.iconst 4, 1) := by decide +kernel
theorem dX14_lays_93 : decode cX14_lays 93 = .ok (.iaload, 1) := by decide +kernel
theorem dX14_lays_94 : decode cX14_lays 94 = .ok (.if_icmp .gt 50, 3) := by decide +kernel
theorem dX14_lays_97 : decode cX14_lays 97 = .ok (.aload_n 0, 1) := by decide +kernel
theorem dX14_lays_98 : decode cX14_lays 98 = .ok (.getfield 17, 3) := by decide +kernel
theorem dX14_lays_101 : decode cX14_lays 101 = .ok (.bipush 8, 2) := by decide +kernel
theorem dX14_lays_103 : decode cX14_lays 103 = .ok (.iload 4, 2) := by decide +kernel
theorem dX14_lays_105 : decode cX14_lays 105 = .ok (.imul, 1) := by decide +kernel
theorem dX14_lays_106 : decode cX14_lays 106 = .ok (.iload 5, 2) := by decide +kernel
theorem dX14_lays_108 : decode cX14_lays 108 = .ok (.iadd, 1) := by decide +kernel
theorem dX14_lays_109 : decode cX14_lays 109 = .ok (.aaload, 1) := by decide +kernel
theorem dX14_lays_110 : decode cX14_lays 110 = .ok (.getfield 47, 3) := by decide +kernel
theorem dX14_lays_113 : decode cX14_lays 113 = .ok (.new 64, 3) := by decide +kernel
theorem dX14_lays_116 : decode cX14_lays 116 = .ok (.dup, 1) := by decide +kernel
theorem dX14_lays_117 : decode cX14_lays 117 = .ok (.aload_n 1, 1) := by decide +kernel
theorem dX14_lays_118 : decode cX14_lays 118 = .ok (.aload_n 2, 1) := by decide +kernel
theorem dX14_lays_119 : decode cX14_lays 119 = .ok (.iconst 1, 1) := by decide +kernel
theorem dX14_lays_120 : decode cX14_lays 120 = .ok (.iaload, 1) := by decide +kernel
theorem dX14_lays_121 : decode cX14_lays 121 = .ok (.aload_n 0, 1) := by decide +kernel
theorem dX14_lays_122 : decode cX14_lays 122 = .ok (.getfield 28, 3) := by decide +kernel
theorem dX14_lays_125 : decode cX14_lays 125 = .ok (.aload_n 1, 1) := by decide +kernel
theorem dX14_lays_126 : decode cX14_lays 126 = .ok (.getfield 200, 3) := by decide +kernel
theorem dX14_lays_129 : decode cX14_lays 129 = .ok (.invokespecial 77, 3) := by decide +kernel
theorem dX14_lays_132 : decode cX14_lays 132 = .ok (.invokeinterface 83 2, 5) := by decide +kernel
theorem dX14_lays_137 : decode cX14_lays 137 = .ok (.pop, 1) := by decide +kernel
theorem dX14_lays_138 : decode cX14_lays 138 = .ok (.iinc 5 1, 3) := by decide +kernel
theorem dX14_lays_141 : decode cX14_lays 141 = .ok (.goto (-52), 3) := by decide +kernel
theorem dX14_lays_144 : decode cX14_lays 144 = .ok (.iinc 4 1, 3) := by decide +kernel
theorem dX14_lays_147 : decode cX14_lays 147 = .ok (.goto (-71), 3) := by decide +kernel
theorem dX14_lays_150 : decode cX14_lays 150 = .ok (.iload_n 3, 1) := by decide +kernel
theorem dX14_lays_151 : decode cX14_lays 151 = .ok (.ireturn, 1) := by decide +kernel
set_option maxRecDepth 20000 in
theorem ggX14_scratches_X15_top : GoodIn wsX14_scratches wsX15_top := goodIn_r _ [13, 14, 15, 16, 17, 18, 19, 20, 21, 22, 23, 24, 25, 26, 27, 28, 29, 30, 31, 32, 33, 34, 35, 36, 37, 38, 39, 40, 41, 42, 138, 139, 140, 141, 142, 143] (by decide +kernel) (by decide +kernel)
set_option maxRecDepth 20000 in
theorem gX14_scratches_X15_top : GoodIn wsX14_scratches (wsV RX14 157 RX15 yX15_top wsX15_top) := goodIn_app (goodIn_of _ (by decide +kernel)) ggX14_scratches_X15_top
set_option maxRecDepth 20000 in
theorem ggX14_scratches_X15_drop : GoodIn wsX14_scratches wsX15_drop := goodIn_r _ [46, 14, 15, 22, 23, 24, 19, 25, 21, 47, 48, 49, 50, 42, 30, 31, 32, 33, 34, 35, 36, 37, 51, 52, 53, 54, 55, 56, 57, 58, 59, 60, 138, 139, 140, 141, 142, 143] (by decide +kernel) (by decide +kernel)
set_option maxRecDepth 20000 in
theorem gX14_scratches_X15_drop : GoodIn wsX14_scratches (wsV RX14 201 RX15 yX15_drop wsX15_drop) := goodIn_app (goodIn_of _ (by decide +kernel)) ggX14_scratches_X15_drop
set_option maxRecDepth 20000 in
theorem ggX14_scratches_Jx4a65c_size_8abf5 : GoodIn wsX14_scratches wsJx4a65c_size_8abf5 := goodIn_r _ [25, 21, 141, 142, 143] (by decide +kernel) (by decide +kernel)
set_option maxRecDepth 20000 in
theorem gX14_scratches_Jx4a65c_size_8abf5_f115Jx4a65c : GoodIn wsX14_scratches (va_wsF RX14 115 RJx4a65c ⟨"java/util/List", "size", "()I"⟩ yJx4a65c_size_8abf5 wsJx4a65c_size_8abf5) := goodIn_app (goodIn_of _ (by decide +kernel)) ggX14_scratches_Jx4a65c_size_8abf5
set_option maxRecDepth 20000 in
theorem ggX14_scratches_X16_init : GoodIn wsX14_scratches wsX16_init := goodIn_r _ [64, 65, 66, 67, 68, 69, 136, 137] (by decide +kernel) (by decide +kernel)
set_option maxRecDepth 20000 in
theorem gX14_scratches_X16_init : GoodIn wsX14_scratches (wsX16_init) := ggX14_scratches_X16_init
set_option maxRecDepth 20000 in
theorem ggX14_scratches_Jx4a65c_add_9ea2d : GoodIn wsX14_scratches wsJx4a65c_add_9ea2d := goodIn_r _ [73, 55, 56, 42, 21, 74, 75, 76, 19, 77, 78, 79, 80, 81, 82, 83, 84, 85, 86, 87, 2, 3, 4, 88, 89, 90, 91, 92, 93, 94, 95, 96, 97, 98, 99, 100, 101, 102, 103, 104, 105, 106, 107, 108, 109, 110, 111, 112, 113, 114, 58, 59, 60, 141, 142, 143] (by decide +kernel) (by decide +kernel)
set_option maxRecDepth 20000 in
theorem gX14_scratches_Jx4a65c_add_9ea2d_f83Jx4a65c : GoodIn wsX14_scratches (va_wsF RX14 83 RJx4a65c ⟨"java/util/List", "add", "(Ljava/lang/Object;)Z"⟩ yJx4a65c_add_9ea2d wsJx4a65c_add_9ea2d) := goodIn_app (goodIn_of _ (by decide +kernel)) ggX14_scratches_Jx4a65c_add_9ea2d
theorem dX14_scratches_0 : decode cX14_scratches 0 = .ok (.aload_n 1, 1) := by decide +kernel
theorem dX14_scratches_1 : decode cX14_scratches 1 = .ok (.invokevirtual 157, 3) := by decide +kernel
theorem dX14_scratches_4 : decode cX14_scratches 4 = .ok (.ifnonnull 5, 3) := by decide +kernel
theorem dX14_scratches_7 : decode cX14_scratches 7 = .ok (.iconst (-1), 1) := by decide +kernel
theorem dX14_scratches_8 : decode cX14_scratches 8 = .ok (.ireturn, 1) := by decide +kernel
theorem dX14_scratches_9 : decode cX14_scratches 9 = .ok (.iload_n 2, 1) := by decide +kernel
theorem dX14_scratches_10 : decode cX14_scratches 10 = .ok (.istore_n 3, 1) := by decide +kernel
theorem dX14_scratches_11 : decode cX14_scratches 11 = .ok (.iload_n 3, 1) := by decide +kernel
theorem dX14_scratches_12 : decode cX14_scratches 12 = .ok (.ifCond .le 90, 3) := by decide +kernel
theorem dX14_scratches_15 : decode cX14_scratches 15 = .ok (.aload_n 1, 1) := by decide +kernel
theorem dX14_scratches_16 : decode cX14_scratches 16 = .ok (.invokevirtual 157, 3) := by decide +kernel
theorem dX14_scratches_19 : decode cX14_scratches 19 = .ok (.ifnull 83, 3) := by decide +kernel
theorem dX14_scratches_22 : decode cX14_scratches 22 = .ok (.aload_n 1, 1) := by decide +kernel
theorem dX14_scratches_23 : decode cX14_scratches 23 = .ok (.invokevirtual 157, 3) := by decide +kernel
theorem dX14_scratches_26 : decode cX14_scratches 26 = .ok (.astore 4, 2) := by decide +kernel
theorem dX14_scratches_28 : decode cX14_scratches 28 = .ok (.aload 4, 2) := by decide +kernel
theorem dX14_scratches_30 : decode cX14_scratches 30 = .ok (.getfield 66, 3) := by decide +kernel
theorem dX14_scratches_33 : decode cX14_scratches 33 = .ok (.getfield 124, 3) := by decide +kernel
theorem dX14_scratches_36 : decode cX14_scratches 36 = .ok (.bipush 115, 2) := by decide +kernel
theorem dX14_scratches_38 : decode cX14_scratches 38 = .ok (.if_icmp .ne 24, 3) := by decide +kernel
theorem dX14_scratches_41 : decode cX14_scratches 41 = .ok (.aload 4, 2) := by decide +kernel
theorem dX14_scratches_43 : decode cX14_scratches 43 = .ok (.iconst 1, 1) := by decide +kernel
theorem dX14_scratches_44 : decode cX14_scratches 44 = .ok (.aload 4, 2) := by decide +kernel
theorem dX14_scratches_46 : decode cX14_scratches 46 = .ok (.getfield 70, 3) := by decide +kernel
theorem dX14_scratches_49 : decode cX14_scratches 49 = .ok (.iload_n 3, 1) := by decide +kernel
theorem dX14_scratches_50 : decode cX14_scratches 50 = .ok (.isub, 1) := by decide +kernel
theorem dX14_scratches_51 : decode cX14_scratches 51 = .ok (.invokestatic 99, 3) := by decide +kernel
theorem dX14_scratches_54 : decode cX14_scratches 54 = .ok (.putfield 70, 3) := by decide +kernel
theorem dX14_scratches_57 : decode cX14_scratches 57 = .ok (.iconst 0, 1) := by decide +kernel
theorem dX14_scratches_58 : decode cX14_scratches 58 = .ok (.istore_n 3, 1) := by decide +kernel
theorem dX14_scratches_59 : decode cX14_scratches 59 = .ok (.goto 40, 3) := by decide +kernel
theorem dX14_scratches_62 : decode cX14_scratches 62 = .ok (.aload 4, 2) := by decide +kernel
theorem dX14_scratches_64 : decode cX14_scratches 64 = .ok (.getfield 70, 3) := by decide +kernel
theorem dX14_scratches_67 : decode cX14_scratches 67 = .ok (.iload_n 3, 1) := by decide +kernel
theorem dX14_scratches_68 : decode cX14_scratches 68 = .ok (.if_icmp .le 19, 3) := by decide +kernel
theorem dX14_scratches_71 : decode cX14_scratches 71 = .ok (.aload 4, 2) := by decide +kernel
theorem dX14_scratches_73 : decode cX14_scratches 73 = .ok (.dup, 1) := by decide +kernel
theorem dX14_scratches_74 : decode cX14_scratches 74 = .ok (.getfield 70, 3) := by decide +kernel
theorem dX14_scratches_77 : decode cX14_scratches 77 = .ok (.iload_n 3, 1) := by decide +kernel
theorem dX14_scratches_78 : decode cX14_scratches 78 = .ok (.isub, 1) := by decide +kernel
theorem dX14_scratches_79 : decode cX14_scratches 79 = .ok (.putfield 70, 3) := by decide +kernel
theorem dX14_scratches_82 : decode cX14_scratches 82 = .ok (.iconst 0, 1) := by decide +kernel
theorem dX14_scratches_83 : decode cX14_scratches 83 = .ok (.istore_n 3, 1) := by decide +kernel
theorem dX14_scratches_84 : decode cX14_scratches 84 = .ok (.goto 15, 3) := by decide +kernel
theorem dX14_scratches_87 : decode cX14_scratches 87 = .ok (.iload_n 3, 1) := by decide +kernel
theorem dX14_scratches_88 : decode cX14_scratches 88 = .ok (.aload 4, 2) := by decide +kernel
theorem dX14_scratches_90 : decode cX14_scratches 90 = .ok (.getfield 70, 3) := by decide +kernel
theorem dX14_scratches_93 : decode cX14_scratches 93 = .ok (.isub, 1) := by decide +kernel
theorem dX14_scratches_94 : decode cX14_scratches 94 = .ok (.istore_n 3, 1) := by decide +kernel
theorem dX14_scratches_95 : decode cX14_scratches 95 = .ok (.aload_n 1, 1) := by decide +kernel
theorem dX14_scratches_96 : decode cX14_scratches 96 = .ok (.invokevirtual 201, 3) := by decide +kernel
theorem dX14_scratches_99 : decode cX14_scratches 99 = .ok (.goto (-88), 3) := by decide +kernel
theorem dX14_scratches_102 : decode cX14_scratches 102 = .ok (.aload_n 0, 1) := by decide +kernel
theorem dX14_scratches_103 : decode cX14_scratches 103 = .ok (.getfield 24, 3) := by decide +kernel
theorem dX14_scratches_106 : decode cX14_scratches 106 = .ok (.new 204, 3) := by decide +kernel
theorem dX14_scratches_109 : decode cX14_scratches 109 = .ok (.dup, 1) := by decide +kernel
theorem dX14_scratches_110 : decode cX14_scratches 110 = .ok (.aload_n 1, 1) := by decide +kernel
theorem dX14_scratches_111 : decode cX14_scratches 111 = .ok (.getfield 206, 3) := by decide +kernel
theorem dX14_scratches_114 : decode cX14_scratches 114 = .ok (.aload_n 1, 1) := by decide +kernel
theorem dX14_scratches_115 : decode cX14_scratches 115 = .ok (.getfield 47, 3) := by decide +kernel
theorem dX14_scratches_118 : decode cX14_scratches 118 = .ok (.invokeinterface 115 1, 5) := by decide +kernel
theorem dX14_scratches_123 : decode cX14_scratches 123 = .ok (.invokespecial 207, 3) := by decide +kernel
theorem dX14_scratches_126 : decode cX14_scratches 126 = .ok (.invokeinterface 83 2, 5) := by decide +kernel
theorem dX14_scratches_131 : decode cX14_scratches 131 = .ok (.pop, 1) := by decide +kernel
theorem dX14_scratches_132 : decode cX14_scratches 132 = .ok (.aload_n 1, 1) := by decide +kernel
theorem dX14_scratches_133 : decode cX14_scratches 133 = .ok (.getfield 47, 3) := by decide +kernel
theorem dX14_scratches_136 : decode cX14_scratches 136 = .ok (.invokeinterface 115 1, 5) := by decide +kernel
theorem dX14_scratches_141 : decode cX14_scratches 141 = .ok (.ireturn, 1) := by decide +kernel
set_option maxRecDepth 20000 in
theorem ggX14_swabs_X15_top : GoodIn wsX14_swabs wsX15_top := goodIn_r _ [7, 8, 9, 10, 11, 12, 13, 14, 15, 16, 17, 18, 19, 20, 21, 22, 23, 24, 25, 26, 27, 28, 29, 30, 31, 32, 33, 34, 35, 36, 181, 182, 183, 184, 185, 186] (by decide +kernel) (by decide +kernel)
set_option maxRecDepth 20000 in
theorem gX14_swabs_X15_top : GoodIn wsX14_swabs (wsV RX14 157 RX15 yX15_top wsX15_top) := goodIn_app (goodIn_of _ (by decide +kernel)) ggX14_swabs_X15_top
set_option maxRecDepth 20000 in
theorem ggX14_swabs_X17_goesBy : GoodIn wsX14_swabs wsX17_goesBy := goodIn_r _ [41, 42, 43, 44, 45, 46, 47, 48, 49, 50, 51, 52, 53, 54, 55, 56, 57, 58, 59, 60, 61, 62, 63, 64, 65, 66, 67, 68, 69, 70, 71, 72, 73, 74, 75, 76, 77, 78, 79, 80, 81, 82, 83, 84, 85, 86, 87, 88, 89, 90, 91, 92, 93, 94, 95, 96, 97, 98, 99, 100, 101, 102, 103, 104, 105, 106, 30, 107, 108, 109, 110, 111, 112, 113, 114, 115, 116, 117, 118, 119, 120, 121, 122, 123, 124, 125, 126, 127, 128, 129, 130, 131, 171, 172, 173, 174, 175, 176, 177, 178, 179, 180, 187, 188, 189, 190] (by decide +kernel) (by decide +kernel)
set_option maxRecDepth 20000 in
theorem gX14_swabs_X17_goesBy : GoodIn wsX14_swabs (wsV RX14 213 RX17 yX17_goesBy wsX17_goesBy) := goodIn_app (goodIn_of _ (by decide +kernel)) ggX14_swabs_X17_goesBy
set_option maxRecDepth 20000 in
theorem ggX14_swabs_X15_drop : GoodIn wsX14_swabs wsX15_drop := goodIn_r _ [135, 8, 9, 16, 17, 18, 13, 19, 15, 136, 137, 138, 139, 36, 24, 25, 26, 27, 28, 29, 30, 31, 140, 141, 142, 143, 144, 145, 146, 147, 148, 149, 181, 182, 183, 184, 185, 186] (by decide +kernel) (by decide +kernel)
set_option maxRecDepth 20000 in
theorem gX14_swabs_X15_drop : GoodIn wsX14_swabs (wsV RX14 201 RX15 yX15_drop wsX15_drop) := goodIn_app (goodIn_of _ (by decide +kernel)) ggX14_swabs_X15_drop
set_option maxRecDepth 20000 in
theorem ggX14_swabs_X17_swellsBy : GoodIn wsX14_swabs wsX17_swellsBy := goodIn_r _ [153, 42, 43, 171, 172, 173, 174, 175, 176, 177, 178, 179, 180] (by decide +kernel) (by decide +kernel)
set_option maxRecDepth 20000 in
theorem gX14_swabs_X17_swellsBy : GoodIn wsX14_swabs (wsV RX14 220 RX17 yX17_swellsBy wsX17_swellsBy) := goodIn_app (goodIn_of _ (by decide +kernel)) ggX14_swabs_X17_swellsBy
set_option maxRecDepth 20000 in
theorem ggX14_swabs_X15_tires : GoodIn wsX14_swabs wsX15_tires := goodIn_r _ [157, 158, 159, 77, 74, 78, 181, 182, 183] (by decide +kernel) (by decide +kernel)
set_option maxRecDepth 20000 in
theorem gX14_swabs_X15_tires : GoodIn wsX14_swabs (wsV RX14 154 RX15 yX15_tires wsX15_tires) := goodIn_app (goodIn_of _ (by decide +kernel)) ggX14_swabs_X15_tires
theorem dX14_swabs_0 : decode cX14_swabs 0 = .ok (.iload 4, 2) := by decide +kernel
theorem dX14_swabs_2 : decode cX14_swabs 2 = .ok (.iload_n 3, 1) := by decide +kernel
theorem dX14_swabs_3 : decode cX14_swabs 3 = .ok (.imul, 1) := by decide +kernel
theorem dX14_swabs_4 : decode cX14_swabs 4 = .ok (.istore 5, 2) := by decide +kernel
theorem dX14_swabs_6 : decode cX14_swabs 6 = .ok (.aload_n 0, 1) := by decide +kernel
theorem dX14_swabs_7 : decode cX14_swabs 7 = .ok (.iconst 0, 1) := by decide +kernel
theorem dX14_swabs_8 : decode cX14_swabs 8 = .ok (.putfield 209, 3) := by decide +kernel
theorem dX14_swabs_11 : decode cX14_swabs 11 = .ok (.iload 5, 2) := by decide +kernel
theorem dX14_swabs_13 : decode cX14_swabs 13 = .ok (.ifCond .le 104, 3) := by decide +kernel
theorem dX14_swabs_16 : decode cX14_swabs 16 = .ok (.aload_n 1, 1) := by decide +kernel
theorem dX14_swabs_17 : decode cX14_swabs 17 = .ok (.invokevirtual 157, 3) := by decide +kernel
theorem dX14_swabs_20 : decode cX14_swabs 20 = .ok (.ifnull 97, 3) := by decide +kernel
theorem dX14_swabs_23 : decode cX14_swabs 23 = .ok (.aload_n 1, 1) := by decide +kernel
theorem dX14_swabs_24 : decode cX14_swabs 24 = .ok (.invokevirtual 157, 3) := by decide +kernel
theorem dX14_swabs_27 : decode cX14_swabs 27 = .ok (.getfield 66, 3) := by decide +kernel
theorem dX14_swabs_30 : decode cX14_swabs 30 = .ok (.iload_n 2, 1) := by decide +kernel
theorem dX14_swabs_31 : decode cX14_swabs 31 = .ok (.invokevirtual 213, 3) := by decide +kernel
theorem dX14_swabs_34 : decode cX14_swabs 34 = .ok (.ifCond .eq 83, 3) := by decide +kernel
theorem dX14_swabs_37 : decode cX14_swabs 37 = .ok (.aload_n 1, 1) := by decide +kernel
theorem dX14_swabs_38 : decode cX14_swabs 38 = .ok (.invokevirtual 157, 3) := by decide +kernel
theorem dX14_swabs_41 : decode cX14_swabs 41 = .ok (.astore 6, 2) := by decide +kernel
theorem dX14_swabs_43 : decode cX14_swabs 43 = .ok (.aload_n 0, 1) := by decide +kernel
theorem dX14_swabs_44 : decode cX14_swabs 44 = .ok (.aload_n 0, 1) := by decide +kernel
theorem dX14_swabs_45 : decode cX14_swabs 45 = .ok (.getfield 209, 3) := by decide +kernel
theorem dX14_swabs_48 : decode cX14_swabs 48 = .ok (.ifCond .ne 16, 3) := by decide +kernel
theorem dX14_swabs_51 : decode cX14_swabs 51 = .ok (.aload 6, 2) := by decide +kernel
theorem dX14_swabs_53 : decode cX14_swabs 53 = .ok (.getfield 66, 3) := by decide +kernel
theorem dX14_swabs_56 : decode cX14_swabs 56 = .ok (.getfield 124, 3) := by decide +kernel
theorem dX14_swabs_59 : decode cX14_swabs 59 = .ok (.bipush 122, 2) := by decide +kernel
theorem dX14_swabs_61 : decode cX14_swabs 61 = .ok (.if_icmp .ne 7, 3) := by decide +kernel
theorem dX14_swabs_64 : decode cX14_swabs 64 = .ok (.iconst 1, 1) := by decide +kernel
theorem dX14_swabs_65 : decode cX14_swabs 65 = .ok (.goto 4, 3) := by decide +kernel
theorem dX14_swabs_68 : decode cX14_swabs 68 = .ok (.iconst 0, 1) := by decide +kernel
theorem dX14_swabs_69 : decode cX14_swabs 69 = .ok (.putfield 209, 3) := by decide +kernel
theorem dX14_swabs_72 : decode cX14_swabs 72 = .ok (.aload 6, 2) := by decide +kernel
theorem dX14_swabs_74 : decode cX14_swabs 74 = .ok (.getfield 70, 3) := by decide +kernel
theorem dX14_swabs_77 : decode cX14_swabs 77 = .ok (.iload 5, 2) := by decide +kernel
theorem dX14_swabs_79 : decode cX14_swabs 79 = .ok (.if_icmp .le 21, 3) := by decide +kernel
theorem dX14_swabs_82 : decode cX14_swabs 82 = .ok (.aload 6, 2) := by decide +kernel
theorem dX14_swabs_84 : decode cX14_swabs 84 = .ok (.dup, 1) := by decide +kernel
theorem dX14_swabs_85 : decode cX14_swabs 85 = .ok (.getfield 70, 3) := by decide +kernel
theorem dX14_swabs_88 : decode cX14_swabs 88 = .ok (.iload 5, 2) := by decide +kernel
theorem dX14_swabs_90 : decode cX14_swabs 90 = .ok (.isub, 1) := by decide +kernel
theorem dX14_swabs_91 : decode cX14_swabs 91 = .ok (.putfield 70, 3) := by decide +kernel
theorem dX14_swabs_94 : decode cX14_swabs 94 = .ok (.iconst 0, 1) := by decide +kernel
theorem dX14_swabs_95 : decode cX14_swabs 95 = .ok (.istore 5, 2) := by decide +kernel
theorem dX14_swabs_97 : decode cX14_swabs 97 = .ok (.goto 17, 3) := by decide +kernel
theorem dX14_swabs_100 : decode cX14_swabs 100 = .ok (.iload 5, 2) := by decide +kernel
theorem dX14_swabs_102 : decode cX14_swabs 102 = .ok (.aload 6, 2) := by decide +kernel
theorem dX14_swabs_104 : decode cX14_swabs 104 = .ok (.getfield 70, 3) := by decide +kernel
theorem dX14_swabs_107 : decode cX14_swabs 107 = .ok (.isub, 1) := by decide +kernel
theorem dX14_swabs_108 : decode cX14_swabs 108 = .ok (.istore 5, 2) := by decide +kernel
theorem dX14_swabs_110 : decode cX14_swabs 110 = .ok (.aload_n 1, 1) := by decide +kernel
theorem dX14_swabs_111 : decode cX14_swabs 111 = .ok (.invokevirtual 201, 3) := by decide +kernel
theorem dX14_swabs_114 : decode cX14_swabs 114 = .ok (.goto (-103), 3) := by decide +kernel
theorem dX14_swabs_117 : decode cX14_swabs 117 = .ok (.aload_n 0, 1) := by decide +kernel
theorem dX14_swabs_118 : decode cX14_swabs 118 = .ok (.iload 4, 2) := by decide +kernel
theorem dX14_swabs_120 : decode cX14_swabs 120 = .ok (.iload_n 3, 1) := by decide +kernel
theorem dX14_swabs_121 : decode cX14_swabs 121 = .ok (.imul, 1) := by decide +kernel
theorem dX14_swabs_122 : decode cX14_swabs 122 = .ok (.iload 5, 2) := by decide +kernel
theorem dX14_swabs_124 : decode cX14_swabs 124 = .ok (.isub, 1) := by decide +kernel
theorem dX14_swabs_125 : decode cX14_swabs 125 = .ok (.putfield 217, 3) := by decide +kernel
theorem dX14_swabs_128 : decode cX14_swabs 128 = .ok (.aload_n 1, 1) := by decide +kernel
theorem dX14_swabs_129 : decode cX14_swabs 129 = .ok (.invokevirtual 157, 3) := by decide +kernel
theorem dX14_swabs_132 : decode cX14_swabs 132 = .ok (.ifnull 23, 3) := by decide +kernel
theorem dX14_swabs_135 : decode cX14_swabs 135 = .ok (.aload_n 1, 1) := by decide +kernel
theorem dX14_swabs_136 : decode cX14_swabs 136 = .ok (.invokevirtual 157, 3) := by decide +kernel
theorem dX14_swabs_139 : decode cX14_swabs 139 = .ok (.getfield 66, 3) := by decide +kernel
theorem dX14_swabs_142 : decode cX14_swabs 142 = .ok (.iload_n 2, 1) := by decide +kernel
theorem dX14_swabs_143 : decode cX14_swabs 143 = .ok (.invokevirtual 220, 3) := by decide +kernel
theorem dX14_swabs_146 : decode cX14_swabs 146 = .ok (.ifCond .eq 9, 3) := by decide +kernel
theorem dX14_swabs_149 : decode cX14_swabs 149 = .ok (.aload_n 1, 1) := by decide +kernel
theorem dX14_swabs_150 : decode cX14_swabs 150 = .ok (.iload 4, 2) := by decide +kernel
theorem dX14_swabs_152 : decode cX14_swabs 152 = .ok (.invokevirtual 154, 3) := by decide +kernel
theorem dX14_swabs_155 : decode cX14_swabs 155 = .ok (.aload_n 0, 1) := by decide +kernel
theorem dX14_swabs_156 : decode cX14_swabs 156 = .ok (.getfield 217, 3) := by decide +kernel
theorem dX14_swabs_159 : decode cX14_swabs 159 = .ok (.ireturn, 1) := by decide +kernel
set_option maxRecDepth 20000 in
theorem ggX14_fills_X14_highest : GoodIn wsX14_fills wsX14_highest := goodIn_r _ [13, 14, 15, 16, 3, 17, 18, 19, 20, 12, 21, 22, 23, 24, 25, 26, 27, 28, 29, 30, 31, 32, 33, 34, 35, 36, 37, 38, 39, 40, 41, 42, 43, 44, 45, 46, 47, 48, 49, 50, 51, 52, 53, 54, 55, 56, 57, 58, 59, 60, 61, 62, 63, 64, 134, 135, 136, 137, 138, 139, 126, 127, 128, 129, 130, 131, 132, 133, 150, 151, 152, 153, 154, 155, 156] (by decide +kernel) (by decide +kernel)
set_option maxRecDepth 20000 in
theorem gX14_fills_X14_highest : GoodIn wsX14_fills (wsV RX14 223 RX14 yX14_highest wsX14_highest) := goodIn_app (goodIn_of _ (by decide +kernel)) ggX14_fills_X14_highest
set_option maxRecDepth 20000 in
theorem ggX14_fills_X15_sum : GoodIn wsX14_fills wsX15_sum := goodIn_r _ [29, 30, 31, 32, 33, 34, 35, 36, 37, 38, 39, 40, 41, 42, 43, 44, 45, 46, 47, 48, 49, 50, 51, 52, 53, 54, 55, 56, 57, 58, 59, 60, 61, 62, 63, 64, 126, 127, 128, 129, 130, 131, 132, 133, 150, 151, 152, 153, 154, 155, 156] (by decide +kernel) (by decide +kernel)
set_option maxRecDepth 20000 in
theorem gX14_fills_X15_sum : GoodIn wsX14_fills (wsV RX14 95 RX15 yX15_sum wsX15_sum) := goodIn_app (goodIn_of _ (by decide +kernel)) ggX14_fills_X15_sum
set_option maxRecDepth 20000 in
theorem ggX14_fills_Jx4a65c_size_8abf5 : GoodIn wsX14_fills wsJx4a65c_size_8abf5 := goodIn_r _ [68, 69, 154, 155, 156] (by decide +kernel) (by decide +kernel)
set_option maxRecDepth 20000 in
theorem gX14_fills_Jx4a65c_size_8abf5_f115Jx4a65c : GoodIn wsX14_fills (va_wsF RX14 115 RJx4a65c ⟨"java/util/List", "size", "()I"⟩ yJx4a65c_size_8abf5 wsJx4a65c_size_8abf5) := goodIn_app (goodIn_of _ (by decide +kernel)) ggX14_fills_Jx4a65c_size_8abf5
set_option maxRecDepth 20000 in
theorem ggX14_fills_X13_init : GoodIn wsX14_fills wsX13_init := goodIn_r _ [72, 73, 45, 46, 74, 75, 76, 77, 129, 130, 131, 132, 133] (by decide +kernel) (by decide +kernel)
set_option maxRecDepth 20000 in
theorem gX14_fills_X13_init : GoodIn wsX14_fills (wsX13_init) := ggX14_fills_X13_init
set_option maxRecDepth 20000 in
theorem ggX14_fills_Jx4a65c_add_9ea2d : GoodIn wsX14_fills wsJx4a65c_add_9ea2d := goodIn_r _ [81, 82, 49, 83, 69, 84, 85, 86, 35, 87, 88, 89, 90, 91, 92, 93, 94, 95, 96, 97, 16, 3, 17, 98, 99, 100, 101, 102, 103, 104, 105, 106, 107, 108, 109, 110, 111, 112, 113, 114, 115, 116, 117, 118, 119, 120, 121, 2, 4, 122, 123, 124, 125, 154, 155, 156] (by decide +kernel) (by decide +kernel)
set_option maxRecDepth 20000 in
theorem gX14_fills_Jx4a65c_add_9ea2d_f83Jx4a65c : GoodIn wsX14_fills (va_wsF RX14 83 RJx4a65c ⟨"java/util/List", "add", "(Ljava/lang/Object;)Z"⟩ yJx4a65c_add_9ea2d wsJx4a65c_add_9ea2d) := goodIn_app (goodIn_of _ (by decide +kernel)) ggX14_fills_Jx4a65c_add_9ea2d
theorem dX14_fills_0 : decode cX14_fills 0 = .ok (.sipush 200, 3) := by decide +kernel
theorem dX14_fills_3 : decode cX14_fills 3 = .ok (.aload_n 0, 1) := by decide +kernel
theorem dX14_fills_4 : decode cX14_fills 4 = .ok (.aload_n 1, 1) := by decide +kernel
theorem dX14_fills_5 : decode cX14_fills 5 = .ok (.getfield 206, 3) := by decide +kernel
theorem dX14_fills_8 : decode cX14_fills 8 = .ok (.invokevirtual 223, 3) := by decide +kernel
theorem dX14_fills_11 : decode cX14_fills 11 = .ok (.aload_n 1, 1) := by decide +kernel
theorem dX14_fills_12 : decode cX14_fills 12 = .ok (.invokevirtual 95, 3) := by decide +kernel
theorem dX14_fills_15 : decode cX14_fills 15 = .ok (.isub, 1) := by decide +kernel
theorem dX14_fills_16 : decode cX14_fills 16 = .ok (.invokestatic 138, 3) := by decide +kernel
theorem dX14_fills_19 : decode cX14_fills 19 = .ok (.istore_n 3, 1) := by decide +kernel
theorem dX14_fills_20 : decode cX14_fills 20 = .ok (.iload_n 3, 1) := by decide +kernel
theorem dX14_fills_21 : decode cX14_fills 21 = .ok (.ifCond .le 17, 3) := by decide +kernel
theorem dX14_fills_24 : decode cX14_fills 24 = .ok (.aload_n 1, 1) := by decide +kernel
theorem dX14_fills_25 : decode cX14_fills 25 = .ok (.getfield 47, 3) := by decide +kernel
theorem dX14_fills_28 : decode cX14_fills 28 = .ok (.invokeinterface 115 1, 5) := by decide +kernel
theorem dX14_fills_33 : decode cX14_fills 33 = .ok (.bipush 9, 2) := by decide +kernel
theorem dX14_fills_35 : decode cX14_fills 35 = .ok (.if_icmp .ne 5, 3) := by decide +kernel
theorem dX14_fills_38 : decode cX14_fills 38 = .ok (.iconst (-1), 1) := by decide +kernel
theorem dX14_fills_39 : decode cX14_fills 39 = .ok (.ireturn, 1) := by decide +kernel
theorem dX14_fills_40 : decode cX14_fills 40 = .ok (.aload_n 1, 1) := by decide +kernel
theorem dX14_fills_41 : decode cX14_fills 41 = .ok (.getfield 47, 3) := by decide +kernel
theorem dX14_fills_44 : decode cX14_fills 44 = .ok (.new 64, 3) := by decide +kernel
theorem dX14_fills_47 : decode cX14_fills 47 = .ok (.dup, 1) := by decide +kernel
theorem dX14_fills_48 : decode cX14_fills 48 = .ok (.aload_n 2, 1) := by decide +kernel
theorem dX14_fills_49 : decode cX14_fills 49 = .ok (.iload_n 3, 1) := by decide +kernel
theorem dX14_fills_50 : decode cX14_fills 50 = .ok (.aload_n 0, 1) := by decide +kernel
theorem dX14_fills_51 : decode cX14_fills 51 = .ok (.getfield 28, 3) := by decide +kernel
theorem dX14_fills_54 : decode cX14_fills 54 = .ok (.aload_n 2, 1) := by decide +kernel
theorem dX14_fills_55 : decode cX14_fills 55 = .ok (.getfield 200, 3) := by decide +kernel
theorem dX14_fills_58 : decode cX14_fills 58 = .ok (.invokespecial 77, 3) := by decide +kernel
theorem dX14_fills_61 : decode cX14_fills 61 = .ok (.invokeinterface 83 2, 5) := by decide +kernel
theorem dX14_fills_66 : decode cX14_fills 66 = .ok (.pop, 1) := by decide +kernel
theorem dX14_fills_67 : decode cX14_fills 67 = .ok (.iload_n 3, 1) := by decide +kernel
theorem dX14_fills_68 : decode cX14_fills 68 = .ok (.ireturn, 1) := by decide +kernel
set_option maxRecDepth 20000 in
theorem ggX14_retouches_Jx4a65c_size_8abf5 : GoodIn wsX14_retouches wsJx4a65c_size_8abf5 := goodIn_r _ [16, 17, 118, 119, 120] (by decide +kernel) (by decide +kernel)
set_option maxRecDepth 20000 in
theorem gX14_retouches_Jx4a65c_size_8abf5_f115Jx4a65c : GoodIn wsX14_retouches (va_wsF RX14 115 RJx4a65c ⟨"java/util/List", "size", "()I"⟩ yJx4a65c_size_8abf5 wsJx4a65c_size_8abf5) := goodIn_app (goodIn_of _ (by decide +kernel)) ggX14_retouches_Jx4a65c_size_8abf5
set_option maxRecDepth 20000 in
theorem ggX14_retouches_X13_init : GoodIn wsX14_retouches wsX13_init := goodIn_r _ [20, 21, 22, 23, 24, 25, 26, 27, 107, 108, 109, 110, 111] (by decide +kernel) (by decide +kernel)
set_option maxRecDepth 20000 in
theorem gX14_retouches_X13_init : GoodIn wsX14_retouches (wsX13_init) := ggX14_retouches_X13_init
set_option maxRecDepth 20000 in
theorem ggX14_retouches_Jx4a65c_add_9ea2d : GoodIn wsX14_retouches wsJx4a65c_add_9ea2d := goodIn_r _ [31, 32, 33, 34, 17, 35, 36, 37, 15, 38, 39, 40, 41, 42, 43, 44, 45, 46, 47, 48, 49, 7, 50, 51, 52, 53, 54, 55, 56, 57, 58, 59, 60, 61, 62, 63, 64, 65, 66, 67, 68, 69, 70, 71, 72, 73, 74, 10, 11, 75, 76, 77, 78, 118, 119, 120] (by decide +kernel) (by decide +kernel)
set_option maxRecDepth 20000 in
theorem gX14_retouches_Jx4a65c_add_9ea2d_f83Jx4a65c : GoodIn wsX14_retouches (va_wsF RX14 83 RJx4a65c ⟨"java/util/List", "add", "(Ljava/lang/Object;)Z"⟩ yJx4a65c_add_9ea2d wsJx4a65c_add_9ea2d) := goodIn_app (goodIn_of _ (by decide +kernel)) ggX14_retouches_Jx4a65c_add_9ea2d
set_option maxRecDepth 20000 in
theorem ggX14_retouches_X15_plain : GoodIn wsX14_retouches wsX15_plain := goodIn_r _ [83, 84, 85, 86, 10, 7, 11, 87, 13, 14, 15, 16, 17, 88, 89, 90, 91, 92, 93, 94, 95, 96, 97, 98, 99, 100, 101, 102, 103, 34, 104, 105, 106, 107, 108, 109, 110, 111, 121, 122, 123, 124, 125, 126, 127, 128, 129, 130, 118, 119, 120] (by decide +kernel) (by decide +kernel)
set_option maxRecDepth 20000 in
theorem gX14_retouches_X15_plain : GoodIn wsX14_retouches (wsV RX14 226 RX15 yX15_plain wsX15_plain) := goodIn_app (goodIn_of _ (by decide +kernel)) ggX14_retouches_X15_plain
theorem dX14_retouches_0 : decode cX14_retouches 0 = .ok (.aload_n 1, 1) := by decide +kernel
theorem dX14_retouches_1 : decode cX14_retouches 1 = .ok (.getfield 47, 3) := by decide +kernel
theorem dX14_retouches_4 : decode cX14_retouches 4 = .ok (.invokeinterface 115 1, 5) := by decide +kernel
theorem dX14_retouches_9 : decode cX14_retouches 9 = .ok (.bipush 9, 2) := by decide +kernel
theorem dX14_retouches_11 : decode cX14_retouches 11 = .ok (.if_icmp .ne 5, 3) := by decide +kernel
theorem dX14_retouches_14 : decode cX14_retouches 14 = .ok (.iconst (-1), 1) := by decide +kernel
theorem dX14_retouches_15 : decode cX14_retouches 15 = .ok (.ireturn, 1) := by decide +kernel
theorem dX14_retouches_16 : decode cX14_retouches 16 = .ok (.new 64, 3) := by decide +kernel
theorem dX14_retouches_19 : decode cX14_retouches 19 = .ok (.dup, 1) := by decide +kernel
theorem dX14_retouches_20 : decode cX14_retouches 20 = .ok (.aload_n 2, 1) := by decide +kernel
theorem dX14_retouches_21 : decode cX14_retouches 21 = .ok (.iconst 5, 1) := by decide +kernel
theorem dX14_retouches_22 : decode cX14_retouches 22 = .ok (.aload_n 0, 1) := by decide +kernel
theorem dX14_retouches_23 : decode cX14_retouches 23 = .ok (.getfield 28, 3) := by decide +kernel
theorem dX14_retouches_26 : decode cX14_retouches 26 = .ok (.iconst 0, 1) := by decide +kernel
theorem dX14_retouches_27 : decode cX14_retouches 27 = .ok (.invokespecial 77, 3) := by decide +kernel
theorem dX14_retouches_30 : decode cX14_retouches 30 = .ok (.astore 4, 2) := by decide +kernel
theorem dX14_retouches_32 : decode cX14_retouches 32 = .ok (.aload_n 1, 1) := by decide +kernel
theorem dX14_retouches_33 : decode cX14_retouches 33 = .ok (.getfield 47, 3) := by decide +kernel
theorem dX14_retouches_36 : decode cX14_retouches 36 = .ok (.aload 4, 2) := by decide +kernel
theorem dX14_retouches_38 : decode cX14_retouches 38 = .ok (.invokeinterface 83 2, 5) := by decide +kernel
theorem dX14_retouches_43 : decode cX14_retouches 43 = .ok (.pop, 1) := by decide +kernel
theorem dX14_retouches_44 : decode cX14_retouches 44 = .ok (.iconst 0, 1) := by decide +kernel
theorem dX14_retouches_45 : decode cX14_retouches 45 = .ok (.istore 5, 2) := by decide +kernel
theorem dX14_retouches_47 : decode cX14_retouches 47 = .ok (.sipush 1000, 3) := by decide +kernel
theorem dX14_retouches_50 : decode cX14_retouches 50 = .ok (.istore 6, 2) := by decide +kernel
theorem dX14_retouches_52 : decode cX14_retouches 52 = .ok (.iconst 0, 1) := by decide +kernel
theorem dX14_retouches_53 : decode cX14_retouches 53 = .ok (.istore 7, 2) := by decide +kernel
theorem dX14_retouches_55 : decode cX14_retouches 55 = .ok (.iload 7, 2) := by decide +kernel
theorem dX14_retouches_57 : decode cX14_retouches 57 = .ok (.bipush 100, 2) := by decide +kernel
theorem dX14_retouches_59 : decode cX14_retouches 59 = .ok (.if_icmp .ge 52, 3) := by decide +kernel
theorem dX14_retouches_62 : decode cX14_retouches 62 = .ok (.aload 4, 2) := by decide +kernel
theorem dX14_retouches_64 : decode cX14_retouches 64 = .ok (.iload 7, 2) := by decide +kernel
theorem dX14_retouches_66 : decode cX14_retouches 66 = .ok (.putfield 74, 3) := by decide +kernel
theorem dX14_retouches_69 : decode cX14_retouches 69 = .ok (.aload_n 1, 1) := by decide +kernel
theorem dX14_retouches_70 : decode cX14_retouches 70 = .ok (.invokevirtual 226, 3) := by decide +kernel
theorem dX14_retouches_73 : decode cX14_retouches 73 = .ok (.iload_n 3, 1) := by decide +kernel
theorem dX14_retouches_74 : decode cX14_retouches 74 = .ok (.isub, 1) := by decide +kernel
theorem dX14_retouches_75 : decode cX14_retouches 75 = .ok (.invokestatic 104, 3) := by decide +kernel
theorem dX14_retouches_78 : decode cX14_retouches 78 = .ok (.istore 8, 2) := by decide +kernel
theorem dX14_retouches_80 : decode cX14_retouches 80 = .ok (.iload 8, 2) := by decide +kernel
theorem dX14_retouches_82 : decode cX14_retouches 82 = .ok (.iload 6, 2) := by decide +kernel
theorem dX14_retouches_84 : decode cX14_retouches 84 = .ok (.if_icmp .ge 8, 3) := by decide +kernel
theorem dX14_retouches_87 : decode cX14_retouches 87 = .ok (.iload 7, 2) := by decide +kernel
theorem dX14_retouches_89 : decode cX14_retouches 89 = .ok (.goto 5, 3) := by decide +kernel
theorem dX14_retouches_92 : decode cX14_retouches 92 = .ok (.iload 5, 2) := by decide +kernel
theorem dX14_retouches_94 : decode cX14_retouches 94 = .ok (.istore 5, 2) := by decide +kernel
theorem dX14_retouches_96 : decode cX14_retouches 96 = .ok (.iload 8, 2) := by decide +kernel
theorem dX14_retouches_98 : decode cX14_retouches 98 = .ok (.iload 6, 2) := by decide +kernel
theorem dX14_retouches_100 : decode cX14_retouches 100 = .ok (.invokestatic 138, 3) := by decide +kernel
theorem dX14_retouches_103 : decode cX14_retouches 103 = .ok (.istore 6, 2) := by decide +kernel
theorem dX14_retouches_105 : decode cX14_retouches 105 = .ok (.iinc 7 1, 3) := by decide +kernel
theorem dX14_retouches_108 : decode cX14_retouches 108 = .ok (.goto (-53), 3) := by decide +kernel
theorem dX14_retouches_111 : decode cX14_retouches 111 = .ok (.aload 4, 2) := by decide +kernel
theorem dX14_retouches_113 : decode cX14_retouches 113 = .ok (.iload 5, 2) := by decide +kernel
theorem dX14_retouches_115 : decode cX14_retouches 115 = .ok (.putfield 74, 3) := by decide +kernel
theorem dX14_retouches_118 : decode cX14_retouches 118 = .ok (.aload_n 1, 1) := by decide +kernel
theorem dX14_retouches_119 : decode cX14_retouches 119 = .ok (.invokevirtual 226, 3) := by decide +kernel
theorem dX14_retouches_122 : decode cX14_retouches 122 = .ok (.ireturn, 1) := by decide +kernel
set_option maxRecDepth 20000 in
theorem ggX14_lends_X15_leg : GoodIn wsX14_lends wsX15_leg := goodIn_r _ [6, 7, 8, 9, 10, 11, 12, 13, 14, 5, 15, 16, 17, 18, 19, 20, 21, 22, 23, 24, 25, 26, 27, 28, 29, 30, 31, 32, 33, 34, 35, 36, 37, 38, 39, 40, 41, 42, 43, 44, 45, 46, 47, 48, 49, 50, 51, 52, 53, 54, 55, 56, 57, 58, 59, 60, 61, 62, 63, 64, 65, 66, 67, 68, 69, 76, 77, 78, 79, 80, 81, 82, 83, 84, 85, 86, 87, 88, 89, 90, 91, 92, 93, 94, 95, 96] (by decide +kernel) (by decide +kernel)
set_option maxRecDepth 20000 in
theorem gX14_lends_X15_leg : GoodIn wsX14_lends (wsV RX14 229 RX15 yX15_leg wsX15_leg) := goodIn_app (goodIn_of _ (by decide +kernel)) ggX14_lends_X15_leg
theorem dX14_lends_0 : decode cX14_lends 0 = .ok (.iconst 0, 1) := by decide +kernel
theorem dX14_lends_1 : decode cX14_lends 1 = .ok (.istore_n 2, 1) := by decide +kernel
theorem dX14_lends_2 : decode cX14_lends 2 = .ok (.iconst 0, 1) := by decide +kernel
theorem dX14_lends_3 : decode cX14_lends 3 = .ok (.istore_n 3, 1) := by decide +kernel
theorem dX14_lends_4 : decode cX14_lends 4 = .ok (.iload_n 3, 1) := by decide +kernel
theorem dX14_lends_5 : decode cX14_lends 5 = .ok (.iconst 1, 1) := by decide +kernel
theorem dX14_lends_6 : decode cX14_lends 6 = .ok (.iadd, 1) := by decide +kernel
theorem dX14_lends_7 : decode cX14_lends 7 = .ok (.aload_n 1, 1) := by decide +kernel
theorem dX14_lends_8 : decode cX14_lends 8 = .ok (.arraylength, 1) := by decide +kernel
theorem dX14_lends_9 : decode cX14_lends 9 = .ok (.if_icmp .ge 59, 3) := by decide +kernel
theorem dX14_lends_12 : decode cX14_lends 12 = .ok (.aload_n 0, 1) := by decide +kernel
theorem dX14_lends_13 : decode cX14_lends 13 = .ok (.getfield 17, 3) := by decide +kernel
theorem dX14_lends_16 : decode cX14_lends 16 = .ok (.astore 4, 2) := by decide +kernel
theorem dX14_lends_18 : decode cX14_lends 18 = .ok (.aload 4, 2) := by decide +kernel
theorem dX14_lends_20 : decode cX14_lends 20 = .ok (.arraylength, 1) := by decide +kernel
theorem dX14_lends_21 : decode cX14_lends 21 = .ok (.istore 5, 2) := by decide +kernel
theorem dX14_lends_23 : decode cX14_lends 23 = .ok (.iconst 0, 1) := by decide +kernel
theorem dX14_lends_24 : decode cX14_lends 24 = .ok (.istore 6, 2) := by decide +kernel
theorem dX14_lends_26 : decode cX14_lends 26 = .ok (.iload 6, 2) := by decide +kernel
theorem dX14_lends_28 : decode cX14_lends 28 = .ok (.iload 5, 2) := by decide +kernel
theorem dX14_lends_30 : decode cX14_lends 30 = .ok (.if_icmp .ge 32, 3) := by decide +kernel
theorem dX14_lends_33 : decode cX14_lends 33 = .ok (.aload 4, 2) := by decide +kernel
theorem dX14_lends_35 : decode cX14_lends 35 = .ok (.iload 6, 2) := by decide +kernel
theorem dX14_lends_37 : decode cX14_lends 37 = .ok (.aaload, 1) := by decide +kernel
theorem dX14_lends_38 : decode cX14_lends 38 = .ok (.astore 7, 2) := by decide +kernel
theorem dX14_lends_40 : decode cX14_lends 40 = .ok (.iload_n 2, 1) := by decide +kernel
theorem dX14_lends_41 : decode cX14_lends 41 = .ok (.aload 7, 2) := by decide +kernel
theorem dX14_lends_43 : decode cX14_lends 43 = .ok (.aload_n 1, 1) := by decide +kernel
theorem dX14_lends_44 : decode cX14_lends 44 = .ok (.iload_n 3, 1) := by decide +kernel
theorem dX14_lends_45 : decode cX14_lends 45 = .ok (.iaload, 1) := by decide +kernel
theorem dX14_lends_46 : decode cX14_lends 46 = .ok (.aload_n 1, 1) := by decide +kernel
theorem dX14_lends_47 : decode cX14_lends 47 = .ok (.iload_n 3, 1) := by decide +kernel
theorem dX14_lends_48 : decode cX14_lends 48 = .ok (.iconst 1, 1) := by decide +kernel
theorem dX14_lends_49 : decode cX14_lends 49 = .ok (.iadd, 1) := by decide +kernel
theorem dX14_lends_50 : decode cX14_lends 50 = .ok (.iaload, 1) := by decide +kernel
theorem dX14_lends_51 : decode cX14_lends 51 = .ok (.invokevirtual 229, 3) := by decide +kernel
theorem dX14_lends_54 : decode cX14_lends 54 = .ok (.iadd, 1) := by decide +kernel
theorem dX14_lends_55 : decode cX14_lends 55 = .ok (.istore_n 2, 1) := by decide +kernel
theorem dX14_lends_56 : decode cX14_lends 56 = .ok (.iinc 6 1, 3) := by decide +kernel
theorem dX14_lends_59 : decode cX14_lends 59 = .ok (.goto (-33), 3) := by decide +kernel
theorem dX14_lends_62 : decode cX14_lends 62 = .ok (.iinc 3 2, 3) := by decide +kernel
theorem dX14_lends_65 : decode cX14_lends 65 = .ok (.goto (-61), 3) := by decide +kernel
theorem dX14_lends_68 : decode cX14_lends 68 = .ok (.iload_n 2, 1) := by decide +kernel
theorem dX14_lends_69 : decode cX14_lends 69 = .ok (.ireturn, 1) := by decide +kernel
set_option maxRecDepth 20000 in
theorem ggX15_init_Jx4a65c_init_da8c8 : GoodIn wsX15_init wsJx4a65c_init_da8c8 := goodIn_r _ [11, 12, 13, 14, 15, 16, 17, 18, 19, 20, 21, 22, 23, 2, 3, 24, 25, 26] (by decide +kernel) (by decide +kernel)
set_option maxRecDepth 20000 in
theorem gX15_init_Jx4a65c_init_da8c8 : GoodIn wsX15_init (wsJx4a65c_init_da8c8) := ggX15_init_Jx4a65c_init_da8c8
theorem dX15_init_0 : decode cX15_init 0 = .ok (.aload_n 0, 1) := by decide +kernel
theorem dX15_init_1 : decode cX15_init 1 = .ok (.invokespecial 3, 3) := by decide +kernel
theorem dX15_init_4 : decode cX15_init 4 = .ok (.aload_n 0, 1) := by decide +kernel
theorem dX15_init_5 : decode cX15_init 5 = .ok (.new 9, 3) := by decide +kernel
theorem dX15_init_8 : decode cX15_init 8 = .ok (.dup, 1) := by decide +kernel
theorem dX15_init_9 : decode cX15_init 9 = .ok (.invokespecial 11, 3) := by decide +kernel
theorem dX15_init_12 : decode cX15_init 12 = .ok (.putfield 12, 3) := by decide +kernel
theorem dX15_init_15 : decode cX15_init 15 = .ok (.aload_n 0, 1) := by decide +kernel
theorem dX15_init_16 : decode cX15_init 16 = .ok (.iload_n 1, 1) := by decide +kernel
theorem dX15_init_17 : decode cX15_init 17 = .ok (.putfield 18, 3) := by decide +kernel
theorem dX15_init_20 : decode cX15_init 20 = .ok (.return_, 1) := by decide +kernel
set_option maxRecDepth 20000 in
theorem ggX15_sum_Jx4a65c_iterator_32c93 : GoodIn wsX15_sum wsJx4a65c_iterator_32c93 := goodIn_r _ [7, 8, 9, 10, 11, 12, 13, 14, 15, 16, 17, 18, 19, 20, 21, 44, 45, 46, 47, 48, 49, 50] (by decide +kernel) (by decide +kernel)
set_option maxRecDepth 20000 in
theorem gX15_sum_Jx4a65c_iterator_32c93_f22Jx4a65c : GoodIn wsX15_sum (va_wsF RX15 22 RJx4a65c ⟨"java/util/List", "iterator", "()Ljava/util/Iterator;"⟩ yJx4a65c_iterator_32c93 wsJx4a65c_iterator_32c93) := goodIn_app (goodIn_of _ (by decide +kernel)) ggX15_sum_Jx4a65c_iterator_32c93
set_option maxRecDepth 20000 in
theorem ggX15_sum_Jx35411_hasNext_aae02 : GoodIn wsX15_sum wsJx35411_hasNext_aae02 := goodIn_r _ [25, 26, 14, 44, 45, 46, 47, 48, 49, 50] (by decide +kernel) (by decide +kernel)
set_option maxRecDepth 20000 in
theorem gX15_sum_Jx35411_hasNext_aae02_f28Jx35411 : GoodIn wsX15_sum (va_wsF RX15 28 RJx35411 ⟨"java/util/Iterator", "hasNext", "()Z"⟩ yJx35411_hasNext_aae02 wsJx35411_hasNext_aae02) := goodIn_app (goodIn_of _ (by decide +kernel)) ggX15_sum_Jx35411_hasNext_aae02
set_option maxRecDepth 20000 in
theorem ggX15_sum_Jx35411_next_0502b : GoodIn wsX15_sum wsJx35411_next_0502b := goodIn_r _ [30, 26, 14, 31, 18, 32, 33, 34, 10, 35, 19, 20, 21, 44, 45, 46, 47, 48, 49, 50] (by decide +kernel) (by decide +kernel)
set_option maxRecDepth 20000 in
theorem gX15_sum_Jx35411_next_0502b_f34Jx35411 : GoodIn wsX15_sum (va_wsF RX15 34 RJx35411 ⟨"java/util/Iterator", "next", "()Ljava/lang/Object;"⟩ yJx35411_next_0502b wsJx35411_next_0502b) := goodIn_app (goodIn_of _ (by decide +kernel)) ggX15_sum_Jx35411_next_0502b
theorem dX15_sum_0 : decode cX15_sum 0 = .ok (.iconst 0, 1) := by decide +kernel
theorem dX15_sum_1 : decode cX15_sum 1 = .ok (.istore_n 1, 1) := by decide +kernel
theorem dX15_sum_2 : decode cX15_sum 2 = .ok (.aload_n 0, 1) := by decide +kernel
theorem dX15_sum_3 : decode cX15_sum 3 = .ok (.getfield 12, 3) := by decide +kernel
theorem dX15_sum_6 : decode cX15_sum 6 = .ok (.invokeinterface 22 1, 5) := by decide +kernel
theorem dX15_sum_11 : decode cX15_sum 11 = .ok (.astore_n 2, 1) := by decide +kernel
theorem dX15_sum_12 : decode cX15_sum 12 = .ok (.aload_n 2, 1) := by decide +kernel
theorem dX15_sum_13 : decode cX15_sum 13 = .ok (.invokeinterface 28 1, 5) := by decide +kernel
theorem dX15_sum_18 : decode cX15_sum 18 = .ok (.ifCond .eq 23, 3) := by decide +kernel
theorem dX15_sum_21 : decode cX15_sum 21 = .ok (.aload_n 2, 1) := by decide +kernel
theorem dX15_sum_22 : decode cX15_sum 22 = .ok (.invokeinterface 34 1, 5) := by decide +kernel
theorem dX15_sum_27 : decode cX15_sum 27 = .ok (.checkcast 38, 3) := by decide +kernel
theorem dX15_sum_30 : decode cX15_sum 30 = .ok (.astore_n 3, 1) := by decide +kernel
theorem dX15_sum_31 : decode cX15_sum 31 = .ok (.iload_n 1, 1) := by decide +kernel
theorem dX15_sum_32 : decode cX15_sum 32 = .ok (.aload_n 3, 1) := by decide +kernel
theorem dX15_sum_33 : decode cX15_sum 33 = .ok (.getfield 40, 3) := by decide +kernel
theorem dX15_sum_36 : decode cX15_sum 36 = .ok (.iadd, 1) := by decide +kernel
theorem dX15_sum_37 : decode cX15_sum 37 = .ok (.istore_n 1, 1) := by decide +kernel
theorem dX15_sum_38 : decode cX15_sum 38 = .ok (.goto (-26), 3) := by decide +kernel
theorem dX15_sum_41 : decode cX15_sum 41 = .ok (.iload_n 1, 1) := by decide +kernel
theorem dX15_sum_42 : decode cX15_sum 42 = .ok (.ireturn, 1) := by decide +kernel
set_option maxRecDepth 20000 in
theorem ggX15_top_Jx4a65c_isEmpty_aae02 : GoodIn wsX15_top wsJx4a65c_isEmpty_aae02 := goodIn_r _ [7, 8, 33, 34, 35] (by decide +kernel) (by decide +kernel)
set_option maxRecDepth 20000 in
theorem gX15_top_Jx4a65c_isEmpty_aae02_f43Jx4a65c : GoodIn wsX15_top (va_wsF RX15 43 RJx4a65c ⟨"java/util/List", "isEmpty", "()Z"⟩ yJx4a65c_isEmpty_aae02 wsJx4a65c_isEmpty_aae02) := goodIn_app (goodIn_of _ (by decide +kernel)) ggX15_top_Jx4a65c_isEmpty_aae02
set_option maxRecDepth 20000 in
theorem ggX15_top_Jx4a65c_size_8abf5 : GoodIn wsX15_top wsJx4a65c_size_8abf5 := goodIn_r _ [12, 8, 33, 34, 35] (by decide +kernel) (by decide +kernel)
set_option maxRecDepth 20000 in
theorem gX15_top_Jx4a65c_size_8abf5_f46Jx4a65c : GoodIn wsX15_top (va_wsF RX15 46 RJx4a65c ⟨"java/util/List", "size", "()I"⟩ yJx4a65c_size_8abf5 wsJx4a65c_size_8abf5) := goodIn_app (goodIn_of _ (by decide +kernel)) ggX15_top_Jx4a65c_size_8abf5
set_option maxRecDepth 20000 in
theorem ggX15_top_Jx4a65c_get_915e3 : GoodIn wsX15_top wsJx4a65c_get_915e3 := goodIn_r _ [16, 8, 17, 18, 19, 20, 21, 22, 23, 24, 25, 26, 27, 6, 28, 29, 33, 34, 35] (by decide +kernel) (by decide +kernel)
set_option maxRecDepth 20000 in
theorem gX15_top_Jx4a65c_get_915e3_f50Jx4a65c : GoodIn wsX15_top (va_wsF RX15 50 RJx4a65c ⟨"java/util/List", "get", "(I)Ljava/lang/Object;"⟩ yJx4a65c_get_915e3 wsJx4a65c_get_915e3) := goodIn_app (goodIn_of _ (by decide +kernel)) ggX15_top_Jx4a65c_get_915e3
theorem dX15_top_0 : decode cX15_top 0 = .ok (.aload_n 0, 1) := by decide +kernel
theorem dX15_top_1 : decode cX15_top 1 = .ok (.getfield 12, 3) := by decide +kernel
theorem dX15_top_4 : decode cX15_top 4 = .ok (.invokeinterface 43 1, 5) := by decide +kernel
theorem dX15_top_9 : decode cX15_top 9 = .ok (.ifCond .eq 7, 3) := by decide +kernel
theorem dX15_top_12 : decode cX15_top 12 = .ok (.aconst_null, 1) := by decide +kernel
theorem dX15_top_13 : decode cX15_top 13 = .ok (.goto 26, 3) := by decide +kernel
theorem dX15_top_16 : decode cX15_top 16 = .ok (.aload_n 0, 1) := by decide +kernel
theorem dX15_top_17 : decode cX15_top 17 = .ok (.getfield 12, 3) := by decide +kernel
theorem dX15_top_20 : decode cX15_top 20 = .ok (.aload_n 0, 1) := by decide +kernel
theorem dX15_top_21 : decode cX15_top 21 = .ok (.getfield 12, 3) := by decide +kernel
theorem dX15_top_24 : decode cX15_top 24 = .ok (.invokeinterface 46 1, 5) := by decide +kernel
theorem dX15_top_29 : decode cX15_top 29 = .ok (.iconst 1, 1) := by decide +kernel
theorem dX15_top_30 : decode cX15_top 30 = .ok (.isub, 1) := by decide +kernel
theorem dX15_top_31 : decode cX15_top 31 = .ok (.invokeinterface 50 2, 5) := by decide +kernel
theorem dX15_top_36 : decode cX15_top 36 = .ok (.checkcast 38, 3) := by decide +kernel
theorem dX15_top_39 : decode cX15_top 39 = .ok (.areturn, 1) := by decide +kernel
set_option maxRecDepth 20000 in
theorem ggX15_drop_Jx4a65c_size_8abf5 : GoodIn wsX15_drop wsJx4a65c_size_8abf5 := goodIn_r _ [7, 8, 35, 36, 37] (by decide +kernel) (by decide +kernel)
set_option maxRecDepth 20000 in
theorem gX15_drop_Jx4a65c_size_8abf5_f46Jx4a65c : GoodIn wsX15_drop (va_wsF RX15 46 RJx4a65c ⟨"java/util/List", "size", "()I"⟩ yJx4a65c_size_8abf5 wsJx4a65c_size_8abf5) := goodIn_app (goodIn_of _ (by decide +kernel)) ggX15_drop_Jx4a65c_size_8abf5
set_option maxRecDepth 20000 in
theorem ggX15_drop_Jx4a65c_remove_915e3 : GoodIn wsX15_drop wsJx4a65c_remove_915e3 := goodIn_r _ [12, 8, 13, 14, 15, 16, 17, 18, 19, 20, 21, 22, 23, 24, 6, 25, 26, 27, 28, 29, 30, 31, 35, 36, 37] (by decide +kernel) (by decide +kernel)
set_option maxRecDepth 20000 in
theorem gX15_drop_Jx4a65c_remove_915e3_f54Jx4a65c : GoodIn wsX15_drop (va_wsF RX15 54 RJx4a65c ⟨"java/util/List", "remove", "(I)Ljava/lang/Object;"⟩ yJx4a65c_remove_915e3 wsJx4a65c_remove_915e3) := goodIn_app (goodIn_of _ (by decide +kernel)) ggX15_drop_Jx4a65c_remove_915e3
theorem dX15_drop_0 : decode cX15_drop 0 = .ok (.aload_n 0, 1) := by decide +kernel
theorem dX15_drop_1 : decode cX15_drop 1 = .ok (.getfield 12, 3) := by decide +kernel
theorem dX15_drop_4 : decode cX15_drop 4 = .ok (.aload_n 0, 1) := by decide +kernel
theorem dX15_drop_5 : decode cX15_drop 5 = .ok (.getfield 12, 3) := by decide +kernel
theorem dX15_drop_8 : decode cX15_drop 8 = .ok (.invokeinterface 46 1, 5) := by decide +kernel
theorem dX15_drop_13 : decode cX15_drop 13 = .ok (.iconst 1, 1) := by decide +kernel
theorem dX15_drop_14 : decode cX15_drop 14 = .ok (.isub, 1) := by decide +kernel
theorem dX15_drop_15 : decode cX15_drop 15 = .ok (.invokeinterface 54 2, 5) := by decide +kernel
theorem dX15_drop_20 : decode cX15_drop 20 = .ok (.checkcast 38, 3) := by decide +kernel
theorem dX15_drop_23 : decode cX15_drop 23 = .ok (.astore_n 1, 1) := by decide +kernel
theorem dX15_drop_24 : decode cX15_drop 24 = .ok (.return_, 1) := by decide +kernel
theorem dX15_tires_0 : decode cX15_tires 0 = .ok (.aload_n 0, 1) := by decide +kernel
theorem dX15_tires_1 : decode cX15_tires 1 = .ok (.bipush 99, 2) := by decide +kernel
theorem dX15_tires_3 : decode cX15_tires 3 = .ok (.aload_n 0, 1) := by decide +kernel
theorem dX15_tires_4 : decode cX15_tires 4 = .ok (.getfield 57, 3) := by decide +kernel
theorem dX15_tires_7 : decode cX15_tires 7 = .ok (.iload_n 1, 1) := by decide +kernel
theorem dX15_tires_8 : decode cX15_tires 8 = .ok (.iadd, 1) := by decide +kernel
theorem dX15_tires_9 : decode cX15_tires 9 = .ok (.invokestatic 60, 3) := by decide +kernel
theorem dX15_tires_12 : decode cX15_tires 12 = .ok (.putfield 57, 3) := by decide +kernel
theorem dX15_tires_15 : decode cX15_tires 15 = .ok (.return_, 1) := by decide +kernel
set_option maxRecDepth 20000 in
theorem ggX15_plain_Jx4a65c_size_8abf5 : GoodIn wsX15_plain wsJx4a65c_size_8abf5 := goodIn_r _ [11, 12, 48, 49, 50] (by decide +kernel) (by decide +kernel)
set_option maxRecDepth 20000 in
theorem gX15_plain_Jx4a65c_size_8abf5_f46Jx4a65c : GoodIn wsX15_plain (va_wsF RX15 46 RJx4a65c ⟨"java/util/List", "size", "()I"⟩ yJx4a65c_size_8abf5 wsJx4a65c_size_8abf5) := goodIn_app (goodIn_of _ (by decide +kernel)) ggX15_plain_Jx4a65c_size_8abf5
set_option maxRecDepth 20000 in
theorem ggX15_plain_Jx4a65c_get_915e3 : GoodIn wsX15_plain wsJx4a65c_get_915e3 := goodIn_r _ [16, 12, 17, 18, 19, 20, 21, 22, 23, 24, 25, 26, 27, 10, 28, 29, 48, 49, 50] (by decide +kernel) (by decide +kernel)
set_option maxRecDepth 20000 in
theorem gX15_plain_Jx4a65c_get_915e3_f50Jx4a65c : GoodIn wsX15_plain (va_wsF RX15 50 RJx4a65c ⟨"java/util/List", "get", "(I)Ljava/lang/Object;"⟩ yJx4a65c_get_915e3 wsJx4a65c_get_915e3) := goodIn_app (goodIn_of _ (by decide +kernel)) ggX15_plain_Jx4a65c_get_915e3
theorem dX15_plain_0 : decode cX15_plain 0 = .ok (.bipush 100, 2) := by decide +kernel
theorem dX15_plain_2 : decode cX15_plain 2 = .ok (.istore_n 1, 1) := by decide +kernel
theorem dX15_plain_3 : decode cX15_plain 3 = .ok (.iconst 0, 1) := by decide +kernel
theorem dX15_plain_4 : decode cX15_plain 4 = .ok (.istore_n 2, 1) := by decide +kernel
theorem dX15_plain_5 : decode cX15_plain 5 = .ok (.aload_n 0, 1) := by decide +kernel
theorem dX15_plain_6 : decode cX15_plain 6 = .ok (.getfield 12, 3) := by decide +kernel
theorem dX15_plain_9 : decode cX15_plain 9 = .ok (.invokeinterface 46 1, 5) := by decide +kernel
theorem dX15_plain_14 : decode cX15_plain 14 = .ok (.iconst 1, 1) := by decide +kernel
theorem dX15_plain_15 : decode cX15_plain 15 = .ok (.isub, 1) := by decide +kernel
theorem dX15_plain_16 : decode cX15_plain 16 = .ok (.istore_n 3, 1) := by decide +kernel
theorem dX15_plain_17 : decode cX15_plain 17 = .ok (.iload_n 3, 1) := by decide +kernel
theorem dX15_plain_18 : decode cX15_plain 18 = .ok (.ifCond .lt 135, 3) := by decide +kernel
theorem dX15_plain_21 : decode cX15_plain 21 = .ok (.aload_n 0, 1) := by decide +kernel
theorem dX15_plain_22 : decode cX15_plain 22 = .ok (.getfield 12, 3) := by decide +kernel
theorem dX15_plain_25 : decode cX15_plain 25 = .ok (.iload_n 3, 1) := by decide +kernel
theorem dX15_plain_26 : decode cX15_plain 26 = .ok (.invokeinterface 50 2, 5) := by decide +kernel
theorem dX15_plain_31 : decode cX15_plain 31 = .ok (.checkcast 38, 3) := by decide +kernel
theorem dX15_plain_34 : decode cX15_plain 34 = .ok (.astore 4, 2) := by decide +kernel
theorem dX15_plain_36 : decode cX15_plain 36 = .ok (.aload 4, 2) := by decide +kernel
theorem dX15_plain_38 : decode cX15_plain 38 = .ok (.getfield 66, 3) := by decide +kernel
theorem dX15_plain_41 : decode cX15_plain 41 = .ok (.getfield 70, 3) := by decide +kernel
theorem dX15_plain_44 : decode cX15_plain 44 = .ok (.bipush 118, 2) := by decide +kernel
theorem dX15_plain_46 : decode cX15_plain 46 = .ok (.if_icmp .ne 7, 3) := by decide +kernel
theorem dX15_plain_49 : decode cX15_plain 49 = .ok (.iconst 1, 1) := by decide +kernel
theorem dX15_plain_50 : decode cX15_plain 50 = .ok (.goto 4, 3) := by decide +kernel
theorem dX15_plain_53 : decode cX15_plain 53 = .ok (.iconst 0, 1) := by decide +kernel
theorem dX15_plain_54 : decode cX15_plain 54 = .ok (.istore 5, 2) := by decide +kernel
theorem dX15_plain_56 : decode cX15_plain 56 = .ok (.bipush 100, 2) := by decide +kernel
theorem dX15_plain_58 : decode cX15_plain 58 = .ok (.aload 4, 2) := by decide +kernel
theorem dX15_plain_60 : decode cX15_plain 60 = .ok (.getfield 66, 3) := by decide +kernel
theorem dX15_plain_63 : decode cX15_plain 63 = .ok (.getfield 76, 3) := by decide +kernel
theorem dX15_plain_66 : decode cX15_plain 66 = .ok (.aload 4, 2) := by decide +kernel
theorem dX15_plain_68 : decode cX15_plain 68 = .ok (.getfield 40, 3) := by decide +kernel
theorem dX15_plain_71 : decode cX15_plain 71 = .ok (.imul, 1) := by decide +kernel
theorem dX15_plain_72 : decode cX15_plain 72 = .ok (.bipush 20, 2) := by decide +kernel
theorem dX15_plain_74 : decode cX15_plain 74 = .ok (.idiv, 1) := by decide +kernel
theorem dX15_plain_75 : decode cX15_plain 75 = .ok (.invokestatic 60, 3) := by decide +kernel
theorem dX15_plain_78 : decode cX15_plain 78 = .ok (.istore 6, 2) := by decide +kernel
theorem dX15_plain_80 : decode cX15_plain 80 = .ok (.bipush 100, 2) := by decide +kernel
theorem dX15_plain_82 : decode cX15_plain 82 = .ok (.iload 6, 2) := by decide +kernel
theorem dX15_plain_84 : decode cX15_plain 84 = .ok (.iload 5, 2) := by decide +kernel
theorem dX15_plain_86 : decode cX15_plain 86 = .ok (.ifCond .eq 11, 3) := by decide +kernel
theorem dX15_plain_89 : decode cX15_plain 89 = .ok (.aload 4, 2) := by decide +kernel
theorem dX15_plain_91 : decode cX15_plain 91 = .ok (.getfield 79, 3) := by decide +kernel
theorem dX15_plain_94 : decode cX15_plain 94 = .ok (.goto 4, 3) := by decide +kernel
theorem dX15_plain_97 : decode cX15_plain 97 = .ok (.iconst 0, 1) := by decide +kernel
theorem dX15_plain_98 : decode cX15_plain 98 = .ok (.iadd, 1) := by decide +kernel
theorem dX15_plain_99 : decode cX15_plain 99 = .ok (.invokestatic 60, 3) := by decide +kernel
theorem dX15_plain_102 : decode cX15_plain 102 = .ok (.istore 6, 2) := by decide +kernel
theorem dX15_plain_104 : decode cX15_plain 104 = .ok (.iload_n 1, 1) := by decide +kernel
theorem dX15_plain_105 : decode cX15_plain 105 = .ok (.iload 6, 2) := by decide +kernel
theorem dX15_plain_107 : decode cX15_plain 107 = .ok (.imul, 1) := by decide +kernel
theorem dX15_plain_108 : decode cX15_plain 108 = .ok (.bipush 100, 2) := by decide +kernel
theorem dX15_plain_110 : decode cX15_plain 110 = .ok (.idiv, 1) := by decide +kernel
theorem dX15_plain_111 : decode cX15_plain 111 = .ok (.istore 7, 2) := by decide +kernel
theorem dX15_plain_113 : decode cX15_plain 113 = .ok (.iload_n 2, 1) := by decide +kernel
theorem dX15_plain_114 : decode cX15_plain 114 = .ok (.iload 7, 2) := by decide +kernel
theorem dX15_plain_116 : decode cX15_plain 116 = .ok (.iload 5, 2) := by decide +kernel
theorem dX15_plain_118 : decode cX15_plain 118 = .ok (.ifCond .eq 16, 3) := by decide +kernel
theorem dX15_plain_121 : decode cX15_plain 121 = .ok (.aload 4, 2) := by decide +kernel
theorem dX15_plain_123 : decode cX15_plain 123 = .ok (.getfield 79, 3) := by decide +kernel
theorem dX15_plain_126 : decode cX15_plain 126 = .ok (.ifCond .le 8, 3) := by decide +kernel
theorem dX15_plain_129 : decode cX15_plain 129 = .ok (.bipush 40, 2) := by decide +kernel
theorem dX15_plain_131 : decode cX15_plain 131 = .ok (.goto 8, 3) := by decide +kernel
theorem dX15_plain_134 : decode cX15_plain 134 = .ok (.aload 4, 2) := by decide +kernel
theorem dX15_plain_136 : decode cX15_plain 136 = .ok (.getfield 82, 3) := by decide +kernel
theorem dX15_plain_139 : decode cX15_plain 139 = .ok (.imul, 1) := by decide +kernel
theorem dX15_plain_140 : decode cX15_plain 140 = .ok (.iadd, 1) := by decide +kernel
theorem dX15_plain_141 : decode cX15_plain 141 = .ok (.istore_n 2, 1) := by decide +kernel
theorem dX15_plain_142 : decode cX15_plain 142 = .ok (.iload_n 1, 1) := by decide +kernel
theorem dX15_plain_143 : decode cX15_plain 143 = .ok (.iload 7, 2) := by decide +kernel
theorem dX15_plain_145 : decode cX15_plain 145 = .ok (.isub, 1) := by decide +kernel
theorem dX15_plain_146 : decode cX15_plain 146 = .ok (.istore_n 1, 1) := by decide +kernel
theorem dX15_plain_147 : decode cX15_plain 147 = .ok (.iinc 3 (-1), 3) := by decide +kernel
theorem dX15_plain_150 : decode cX15_plain 150 = .ok (.goto (-133), 3) := by decide +kernel
theorem dX15_plain_153 : decode cX15_plain 153 = .ok (.iload_n 2, 1) := by decide +kernel
theorem dX15_plain_154 : decode cX15_plain 154 = .ok (.bipush 50, 2) := by decide +kernel
theorem dX15_plain_156 : decode cX15_plain 156 = .ok (.iload_n 1, 1) := by decide +kernel
theorem dX15_plain_157 : decode cX15_plain 157 = .ok (.imul, 1) := by decide +kernel
theorem dX15_plain_158 : decode cX15_plain 158 = .ok (.iadd, 1) := by decide +kernel
theorem dX15_plain_159 : decode cX15_plain 159 = .ok (.bipush 100, 2) := by decide +kernel
theorem dX15_plain_161 : decode cX15_plain 161 = .ok (.idiv, 1) := by decide +kernel
theorem dX15_plain_162 : decode cX15_plain 162 = .ok (.ireturn, 1) := by decide +kernel
set_option maxRecDepth 20000 in
theorem ggX15_view_X15_plain : GoodIn wsX15_view wsX15_plain := goodIn_r _ [11, 1, 2, 3, 4, 5, 6, 12, 13, 14, 15, 16, 17, 18, 19, 20, 21, 22, 23, 24, 25, 26, 27, 28, 29, 30, 31, 32, 33, 34, 75, 76, 77, 78, 79, 80, 81, 82, 83, 84, 85, 86, 87, 88, 89, 90, 91, 92, 93, 94, 95] (by decide +kernel) (by decide +kernel)
set_option maxRecDepth 20000 in
theorem gX15_view_X15_plain : GoodIn wsX15_view (wsV RX15 85 RX15 yX15_plain wsX15_plain) := goodIn_app (goodIn_of _ (by decide +kernel)) ggX15_view_X15_plain
set_option maxRecDepth 20000 in
theorem ggX15_view_Jx4a65c_iterator_32c93 : GoodIn wsX15_view wsJx4a65c_iterator_32c93 := goodIn_r _ [38, 39, 40, 41, 42, 43, 44, 45, 46, 47, 48, 49, 50, 51, 52, 96, 97, 98, 99, 93, 94, 95] (by decide +kernel) (by decide +kernel)
set_option maxRecDepth 20000 in
theorem gX15_view_Jx4a65c_iterator_32c93_f22Jx4a65c : GoodIn wsX15_view (va_wsF RX15 22 RJx4a65c ⟨"java/util/List", "iterator", "()Ljava/util/Iterator;"⟩ yJx4a65c_iterator_32c93 wsJx4a65c_iterator_32c93) := goodIn_app (goodIn_of _ (by decide +kernel)) ggX15_view_Jx4a65c_iterator_32c93
set_option maxRecDepth 20000 in
theorem ggX15_view_Jx35411_hasNext_aae02 : GoodIn wsX15_view wsJx35411_hasNext_aae02 := goodIn_r _ [56, 57, 45, 96, 97, 98, 99, 93, 94, 95] (by decide +kernel) (by decide +kernel)
set_option maxRecDepth 20000 in
theorem gX15_view_Jx35411_hasNext_aae02_f28Jx35411 : GoodIn wsX15_view (va_wsF RX15 28 RJx35411 ⟨"java/util/Iterator", "hasNext", "()Z"⟩ yJx35411_hasNext_aae02 wsJx35411_hasNext_aae02) := goodIn_app (goodIn_of _ (by decide +kernel)) ggX15_view_Jx35411_hasNext_aae02
set_option maxRecDepth 20000 in
theorem ggX15_view_Jx35411_next_0502b : GoodIn wsX15_view wsJx35411_next_0502b := goodIn_r _ [61, 57, 45, 62, 49, 63, 64, 65, 41, 66, 50, 51, 52, 96, 97, 98, 99, 93, 94, 95] (by decide +kernel) (by decide +kernel)
set_option maxRecDepth 20000 in
theorem gX15_view_Jx35411_next_0502b_f34Jx35411 : GoodIn wsX15_view (va_wsF RX15 34 RJx35411 ⟨"java/util/Iterator", "next", "()Ljava/lang/Object;"⟩ yJx35411_next_0502b wsJx35411_next_0502b) := goodIn_app (goodIn_of _ (by decide +kernel)) ggX15_view_Jx35411_next_0502b
set_option maxRecDepth 20000 in
theorem ggX15_view_X15_top : GoodIn wsX15_view wsX15_top := goodIn_r _ [70, 1, 2, 71, 72, 73, 15, 74, 17, 12, 13, 14, 16, 18, 19, 20, 21, 22, 23, 24, 25, 26, 27, 28, 29, 30, 31, 32, 33, 34, 75, 76, 77, 93, 94, 95] (by decide +kernel) (by decide +kernel)
set_option maxRecDepth 20000 in
theorem gX15_view_X15_top : GoodIn wsX15_view (wsV RX15 96 RX15 yX15_top wsX15_top) := goodIn_app (goodIn_of _ (by decide +kernel)) ggX15_view_X15_top
theorem dX15_view_0 : decode cX15_view 0 = .ok (.iload_n 1, 1) := by decide +kernel
theorem dX15_view_1 : decode cX15_view 1 = .ok (.bipush 112, 2) := by decide +kernel
theorem dX15_view_3 : decode cX15_view 3 = .ok (.if_icmp .ne 8, 3) := by decide +kernel
theorem dX15_view_6 : decode cX15_view 6 = .ok (.aload_n 0, 1) := by decide +kernel
theorem dX15_view_7 : decode cX15_view 7 = .ok (.invokevirtual 85, 3) := by decide +kernel
theorem dX15_view_10 : decode cX15_view 10 = .ok (.ireturn, 1) := by decide +kernel
theorem dX15_view_11 : decode cX15_view 11 = .ok (.iload_n 1, 1) := by decide +kernel
theorem dX15_view_12 : decode cX15_view 12 = .ok (.bipush 119, 2) := by decide +kernel
theorem dX15_view_14 : decode cX15_view 14 = .ok (.if_icmp .ne 60, 3) := by decide +kernel
theorem dX15_view_17 : decode cX15_view 17 = .ok (.iconst 0, 1) := by decide +kernel
theorem dX15_view_18 : decode cX15_view 18 = .ok (.istore_n 2, 1) := by decide +kernel
theorem dX15_view_19 : decode cX15_view 19 = .ok (.aload_n 0, 1) := by decide +kernel
theorem dX15_view_20 : decode cX15_view 20 = .ok (.getfield 12, 3) := by decide +kernel
theorem dX15_view_23 : decode cX15_view 23 = .ok (.invokeinterface 22 1, 5) := by decide +kernel
theorem dX15_view_28 : decode cX15_view 28 = .ok (.astore_n 3, 1) := by decide +kernel
theorem dX15_view_29 : decode cX15_view 29 = .ok (.aload_n 3, 1) := by decide +kernel
theorem dX15_view_30 : decode cX15_view 30 = .ok (.invokeinterface 28 1, 5) := by decide +kernel
theorem dX15_view_35 : decode cX15_view 35 = .ok (.ifCond .eq 34, 3) := by decide +kernel
theorem dX15_view_38 : decode cX15_view 38 = .ok (.aload_n 3, 1) := by decide +kernel
theorem dX15_view_39 : decode cX15_view 39 = .ok (.invokeinterface 34 1, 5) := by decide +kernel
theorem dX15_view_44 : decode cX15_view 44 = .ok (.checkcast 38, 3) := by decide +kernel
theorem dX15_view_47 : decode cX15_view 47 = .ok (.astore 4, 2) := by decide +kernel
theorem dX15_view_49 : decode cX15_view 49 = .ok (.iload_n 2, 1) := by decide +kernel
theorem dX15_view_50 : decode cX15_view 50 = .ok (.aload 4, 2) := by decide +kernel
theorem dX15_view_52 : decode cX15_view 52 = .ok (.getfield 66, 3) := by decide +kernel
theorem dX15_view_55 : decode cX15_view 55 = .ok (.getfield 88, 3) := by decide +kernel
theorem dX15_view_58 : decode cX15_view 58 = .ok (.aload 4, 2) := by decide +kernel
theorem dX15_view_60 : decode cX15_view 60 = .ok (.getfield 40, 3) := by decide +kernel
theorem dX15_view_63 : decode cX15_view 63 = .ok (.imul, 1) := by decide +kernel
theorem dX15_view_64 : decode cX15_view 64 = .ok (.iadd, 1) := by decide +kernel
theorem dX15_view_65 : decode cX15_view 65 = .ok (.istore_n 2, 1) := by decide +kernel
theorem dX15_view_66 : decode cX15_view 66 = .ok (.goto (-37), 3) := by decide +kernel
theorem dX15_view_69 : decode cX15_view 69 = .ok (.iload_n 2, 1) := by decide +kernel
theorem dX15_view_70 : decode cX15_view 70 = .ok (.bipush 10, 2) := by decide +kernel
theorem dX15_view_72 : decode cX15_view 72 = .ok (.idiv, 1) := by decide +kernel
theorem dX15_view_73 : decode cX15_view 73 = .ok (.ireturn, 1) := by decide +kernel
theorem dX15_view_74 : decode cX15_view 74 = .ok (.iload_n 1, 1) := by decide +kernel
theorem dX15_view_75 : decode cX15_view 75 = .ok (.bipush 104, 2) := by decide +kernel
theorem dX15_view_77 : decode cX15_view 77 = .ok (.if_icmp .ne 64, 3) := by decide +kernel
theorem dX15_view_80 : decode cX15_view 80 = .ok (.iconst (-1), 1) := by decide +kernel
theorem dX15_view_81 : decode cX15_view 81 = .ok (.istore_n 2, 1) := by decide +kernel
theorem dX15_view_82 : decode cX15_view 82 = .ok (.aload_n 0, 1) := by decide +kernel
theorem dX15_view_83 : decode cX15_view 83 = .ok (.getfield 12, 3) := by decide +kernel
theorem dX15_view_86 : decode cX15_view 86 = .ok (.invokeinterface 22 1, 5) := by decide +kernel
theorem dX15_view_91 : decode cX15_view 91 = .ok (.astore_n 3, 1) := by decide +kernel
theorem dX15_view_92 : decode cX15_view 92 = .ok (.aload_n 3, 1) := by decide +kernel
theorem dX15_view_93 : decode cX15_view 93 = .ok (.invokeinterface 28 1, 5) := by decide +kernel
theorem dX15_view_98 : decode cX15_view 98 = .ok (.ifCond .eq 41, 3) := by decide +kernel
theorem dX15_view_101 : decode cX15_view 101 = .ok (.aload_n 3, 1) := by decide +kernel
theorem dX15_view_102 : decode cX15_view 102 = .ok (.invokeinterface 34 1, 5) := by decide +kernel
theorem dX15_view_107 : decode cX15_view 107 = .ok (.checkcast 38, 3) := by decide +kernel
theorem dX15_view_110 : decode cX15_view 110 = .ok (.astore 4, 2) := by decide +kernel
theorem dX15_view_112 : decode cX15_view 112 = .ok (.aload 4, 2) := by decide +kernel
theorem dX15_view_114 : decode cX15_view 114 = .ok (.getfield 66, 3) := by decide +kernel
theorem dX15_view_117 : decode cX15_view 117 = .ok (.getfield 91, 3) := by decide +kernel
theorem dX15_view_120 : decode cX15_view 120 = .ok (.ifCond .eq 7, 3) := by decide +kernel
theorem dX15_view_123 : decode cX15_view 123 = .ok (.iload_n 2, 1) := by decide +kernel
theorem dX15_view_124 : decode cX15_view 124 = .ok (.goto 11, 3) := by decide +kernel
theorem dX15_view_127 : decode cX15_view 127 = .ok (.aload 4, 2) := by decide +kernel
theorem dX15_view_129 : decode cX15_view 129 = .ok (.getfield 66, 3) := by decide +kernel
theorem dX15_view_132 : decode cX15_view 132 = .ok (.getfield 95, 3) := by decide +kernel
theorem dX15_view_135 : decode cX15_view 135 = .ok (.istore_n 2, 1) := by decide +kernel
theorem dX15_view_136 : decode cX15_view 136 = .ok (.goto (-44), 3) := by decide +kernel
theorem dX15_view_139 : decode cX15_view 139 = .ok (.iload_n 2, 1) := by decide +kernel
theorem dX15_view_140 : decode cX15_view 140 = .ok (.ireturn, 1) := by decide +kernel
theorem dX15_view_141 : decode cX15_view 141 = .ok (.aload_n 0, 1) := by decide +kernel
theorem dX15_view_142 : decode cX15_view 142 = .ok (.invokevirtual 96, 3) := by decide +kernel
theorem dX15_view_145 : decode cX15_view 145 = .ok (.ifnonnull 7, 3) := by decide +kernel
theorem dX15_view_148 : decode cX15_view 148 = .ok (.iconst 0, 1) := by decide +kernel
theorem dX15_view_149 : decode cX15_view 149 = .ok (.goto 26, 3) := by decide +kernel
theorem dX15_view_152 : decode cX15_view 152 = .ok (.bipush 9, 2) := by decide +kernel
theorem dX15_view_154 : decode cX15_view 154 = .ok (.aload_n 0, 1) := by decide +kernel
theorem dX15_view_155 : decode cX15_view 155 = .ok (.invokevirtual 96, 3) := by decide +kernel
theorem dX15_view_158 : decode cX15_view 158 = .ok (.getfield 66, 3) := by decide +kernel
theorem dX15_view_161 : decode cX15_view 161 = .ok (.getfield 100, 3) := by decide +kernel
theorem dX15_view_164 : decode cX15_view 164 = .ok (.aload_n 0, 1) := by decide +kernel
theorem dX15_view_165 : decode cX15_view 165 = .ok (.invokevirtual 96, 3) := by decide +kernel
theorem dX15_view_168 : decode cX15_view 168 = .ok (.getfield 79, 3) := by decide +kernel
theorem dX15_view_171 : decode cX15_view 171 = .ok (.iadd, 1) := by decide +kernel
theorem dX15_view_172 : decode cX15_view 172 = .ok (.invokestatic 60, 3) := by decide +kernel
theorem dX15_view_175 : decode cX15_view 175 = .ok (.ireturn, 1) := by decide +kernel
set_option maxRecDepth 20000 in
theorem ggX15_leg_X15_tires : GoodIn wsX15_leg wsX15_tires := goodIn_r _ [10, 1, 11, 12, 4, 13, 65, 66, 67] (by decide +kernel) (by decide +kernel)
set_option maxRecDepth 20000 in
theorem gX15_leg_X15_tires : GoodIn wsX15_leg (wsV RX15 107 RX15 yX15_tires wsX15_tires) := goodIn_app (goodIn_of _ (by decide +kernel)) ggX15_leg_X15_tires
set_option maxRecDepth 20000 in
theorem ggX15_leg_X15_top : GoodIn wsX15_leg wsX15_top := goodIn_r _ [17, 18, 19, 20, 21, 22, 23, 24, 25, 26, 27, 28, 29, 30, 31, 32, 33, 34, 35, 36, 37, 38, 39, 40, 41, 42, 43, 44, 45, 46, 65, 66, 67, 83, 84, 85] (by decide +kernel) (by decide +kernel)
set_option maxRecDepth 20000 in
theorem gX15_leg_X15_top : GoodIn wsX15_leg (wsV RX15 96 RX15 yX15_top wsX15_top) := goodIn_app (goodIn_of _ (by decide +kernel)) ggX15_leg_X15_top
set_option maxRecDepth 20000 in
theorem ggX15_leg_X15_drop : GoodIn wsX15_leg wsX15_drop := goodIn_r _ [50, 18, 19, 26, 27, 28, 23, 29, 25, 51, 52, 53, 54, 46, 34, 35, 36, 37, 38, 39, 40, 41, 55, 56, 57, 58, 59, 60, 61, 62, 63, 64, 65, 66, 67, 83, 84, 85] (by decide +kernel) (by decide +kernel)
set_option maxRecDepth 20000 in
theorem gX15_leg_X15_drop : GoodIn wsX15_leg (wsV RX15 111 RX15 yX15_drop wsX15_drop) := goodIn_app (goodIn_of _ (by decide +kernel)) ggX15_leg_X15_drop
theorem dX15_leg_0 : decode cX15_leg 0 = .ok (.iload_n 1, 1) := by decide +kernel
theorem dX15_leg_1 : decode cX15_leg 1 = .ok (.aload_n 0, 1) := by decide +kernel
theorem dX15_leg_2 : decode cX15_leg 2 = .ok (.getfield 57, 3) := by decide +kernel
theorem dX15_leg_5 : decode cX15_leg 5 = .ok (.imul, 1) := by decide +kernel
theorem dX15_leg_6 : decode cX15_leg 6 = .ok (.bipush 20, 2) := by decide +kernel
theorem dX15_leg_8 : decode cX15_leg 8 = .ok (.idiv, 1) := by decide +kernel
theorem dX15_leg_9 : decode cX15_leg 9 = .ok (.iload_n 2, 1) := by decide +kernel
theorem dX15_leg_10 : decode cX15_leg 10 = .ok (.bipush 50, 2) := by decide +kernel
theorem dX15_leg_12 : decode cX15_leg 12 = .ok (.isub, 1) := by decide +kernel
theorem dX15_leg_13 : decode cX15_leg 13 = .ok (.invokestatic 103, 3) := by decide +kernel
theorem dX15_leg_16 : decode cX15_leg 16 = .ok (.bipush 10, 2) := by decide +kernel
theorem dX15_leg_18 : decode cX15_leg 18 = .ok (.idiv, 1) := by decide +kernel
theorem dX15_leg_19 : decode cX15_leg 19 = .ok (.iadd, 1) := by decide +kernel
theorem dX15_leg_20 : decode cX15_leg 20 = .ok (.istore_n 3, 1) := by decide +kernel
theorem dX15_leg_21 : decode cX15_leg 21 = .ok (.iload_n 3, 1) := by decide +kernel
theorem dX15_leg_22 : decode cX15_leg 22 = .ok (.bipush 10, 2) := by decide +kernel
theorem dX15_leg_24 : decode cX15_leg 24 = .ok (.if_icmp .ge 10, 3) := by decide +kernel
theorem dX15_leg_27 : decode cX15_leg 27 = .ok (.aload_n 0, 1) := by decide +kernel
theorem dX15_leg_28 : decode cX15_leg 28 = .ok (.iconst 1, 1) := by decide +kernel
theorem dX15_leg_29 : decode cX15_leg 29 = .ok (.invokevirtual 107, 3) := by decide +kernel
theorem dX15_leg_32 : decode cX15_leg 32 = .ok (.iconst 0, 1) := by decide +kernel
theorem dX15_leg_33 : decode cX15_leg 33 = .ok (.ireturn, 1) := by decide +kernel
theorem dX15_leg_34 : decode cX15_leg 34 = .ok (.aload_n 0, 1) := by decide +kernel
theorem dX15_leg_35 : decode cX15_leg 35 = .ok (.dup, 1) := by decide +kernel
theorem dX15_leg_36 : decode cX15_leg 36 = .ok (.getfield 57, 3) := by decide +kernel
theorem dX15_leg_39 : decode cX15_leg 39 = .ok (.iconst 2, 1) := by decide +kernel
theorem dX15_leg_40 : decode cX15_leg 40 = .ok (.idiv, 1) := by decide +kernel
theorem dX15_leg_41 : decode cX15_leg 41 = .ok (.putfield 57, 3) := by decide +kernel
theorem dX15_leg_44 : decode cX15_leg 44 = .ok (.aload_n 0, 1) := by decide +kernel
theorem dX15_leg_45 : decode cX15_leg 45 = .ok (.invokevirtual 96, 3) := by decide +kernel
theorem dX15_leg_48 : decode cX15_leg 48 = .ok (.ifnull 22, 3) := by decide +kernel
theorem dX15_leg_51 : decode cX15_leg 51 = .ok (.aload_n 0, 1) := by decide +kernel
theorem dX15_leg_52 : decode cX15_leg 52 = .ok (.invokevirtual 96, 3) := by decide +kernel
theorem dX15_leg_55 : decode cX15_leg 55 = .ok (.getfield 66, 3) := by decide +kernel
theorem dX15_leg_58 : decode cX15_leg 58 = .ok (.getfield 70, 3) := by decide +kernel
theorem dX15_leg_61 : decode cX15_leg 61 = .ok (.bipush 115, 2) := by decide +kernel
theorem dX15_leg_63 : decode cX15_leg 63 = .ok (.if_icmp .eq 7, 3) := by decide +kernel
theorem dX15_leg_66 : decode cX15_leg 66 = .ok (.iconst 1, 1) := by decide +kernel
theorem dX15_leg_67 : decode cX15_leg 67 = .ok (.goto 4, 3) := by decide +kernel
theorem dX15_leg_70 : decode cX15_leg 70 = .ok (.iconst 0, 1) := by decide +kernel
theorem dX15_leg_71 : decode cX15_leg 71 = .ok (.istore 4, 2) := by decide +kernel
theorem dX15_leg_73 : decode cX15_leg 73 = .ok (.iload 4, 2) := by decide +kernel
theorem dX15_leg_75 : decode cX15_leg 75 = .ok (.ifCond .eq 7, 3) := by decide +kernel
theorem dX15_leg_78 : decode cX15_leg 78 = .ok (.aload_n 0, 1) := by decide +kernel
theorem dX15_leg_79 : decode cX15_leg 79 = .ok (.invokevirtual 111, 3) := by decide +kernel
theorem dX15_leg_82 : decode cX15_leg 82 = .ok (.iload 4, 2) := by decide +kernel
theorem dX15_leg_84 : decode cX15_leg 84 = .ok (.ifCond .eq 7, 3) := by decide +kernel
theorem dX15_leg_87 : decode cX15_leg 87 = .ok (.iconst 1, 1) := by decide +kernel
theorem dX15_leg_88 : decode cX15_leg 88 = .ok (.goto 4, 3) := by decide +kernel
theorem dX15_leg_91 : decode cX15_leg 91 = .ok (.iconst 0, 1) := by decide +kernel
theorem dX15_leg_92 : decode cX15_leg 92 = .ok (.ireturn, 1) := by decide +kernel
theorem dX16_init_0 : decode cX16_init 0 = .ok (.aload_n 0, 1) := by decide +kernel
theorem dX16_init_1 : decode cX16_init 1 = .ok (.invokespecial 1, 3) := by decide +kernel
theorem dX16_init_4 : decode cX16_init 4 = .ok (.aload_n 0, 1) := by decide +kernel
theorem dX16_init_5 : decode cX16_init 5 = .ok (.iload_n 1, 1) := by decide +kernel
theorem dX16_init_6 : decode cX16_init 6 = .ok (.putfield 7, 3) := by decide +kernel
theorem dX16_init_9 : decode cX16_init 9 = .ok (.aload_n 0, 1) := by decide +kernel
theorem dX16_init_10 : decode cX16_init 10 = .ok (.iload_n 2, 1) := by decide +kernel
theorem dX16_init_11 : decode cX16_init 11 = .ok (.putfield 13, 3) := by decide +kernel
theorem dX16_init_14 : decode cX16_init 14 = .ok (.return_, 1) := by decide +kernel
theorem dX17_init_0 : decode cX17_init 0 = .ok (.aload_n 0, 1) := by decide +kernel
theorem dX17_init_1 : decode cX17_init 1 = .ok (.invokespecial 1, 3) := by decide +kernel
theorem dX17_init_4 : decode cX17_init 4 = .ok (.aload_n 0, 1) := by decide +kernel
theorem dX17_init_5 : decode cX17_init 5 = .ok (.iload_n 1, 1) := by decide +kernel
theorem dX17_init_6 : decode cX17_init 6 = .ok (.putfield 7, 3) := by decide +kernel
theorem dX17_init_9 : decode cX17_init 9 = .ok (.aload_n 0, 1) := by decide +kernel
theorem dX17_init_10 : decode cX17_init 10 = .ok (.iload_n 2, 1) := by decide +kernel
theorem dX17_init_11 : decode cX17_init 11 = .ok (.putfield 13, 3) := by decide +kernel
theorem dX17_init_14 : decode cX17_init 14 = .ok (.aload_n 0, 1) := by decide +kernel
theorem dX17_init_15 : decode cX17_init 15 = .ok (.iload_n 3, 1) := by decide +kernel
theorem dX17_init_16 : decode cX17_init 16 = .ok (.putfield 17, 3) := by decide +kernel
theorem dX17_init_19 : decode cX17_init 19 = .ok (.aload_n 0, 1) := by decide +kernel
theorem dX17_init_20 : decode cX17_init 20 = .ok (.iload 4, 2) := by decide +kernel
theorem dX17_init_22 : decode cX17_init 22 = .ok (.putfield 20, 3) := by decide +kernel
theorem dX17_init_25 : decode cX17_init 25 = .ok (.aload_n 0, 1) := by decide +kernel
theorem dX17_init_26 : decode cX17_init 26 = .ok (.iload 5, 2) := by decide +kernel
theorem dX17_init_28 : decode cX17_init 28 = .ok (.putfield 23, 3) := by decide +kernel
theorem dX17_init_31 : decode cX17_init 31 = .ok (.aload_n 0, 1) := by decide +kernel
theorem dX17_init_32 : decode cX17_init 32 = .ok (.iload 6, 2) := by decide +kernel
theorem dX17_init_34 : decode cX17_init 34 = .ok (.putfield 26, 3) := by decide +kernel
theorem dX17_init_37 : decode cX17_init 37 = .ok (.aload_n 0, 1) := by decide +kernel
theorem dX17_init_38 : decode cX17_init 38 = .ok (.iload 7, 2) := by decide +kernel
theorem dX17_init_40 : decode cX17_init 40 = .ok (.putfield 29, 3) := by decide +kernel
theorem dX17_init_43 : decode cX17_init 43 = .ok (.aload_n 0, 1) := by decide +kernel
theorem dX17_init_44 : decode cX17_init 44 = .ok (.iload 8, 2) := by decide +kernel
theorem dX17_init_46 : decode cX17_init 46 = .ok (.putfield 32, 3) := by decide +kernel
theorem dX17_init_49 : decode cX17_init 49 = .ok (.aload_n 0, 1) := by decide +kernel
theorem dX17_init_50 : decode cX17_init 50 = .ok (.iload 9, 2) := by decide +kernel
theorem dX17_init_52 : decode cX17_init 52 = .ok (.putfield 35, 3) := by decide +kernel
theorem dX17_init_55 : decode cX17_init 55 = .ok (.aload_n 0, 1) := by decide +kernel
theorem dX17_init_56 : decode cX17_init 56 = .ok (.iload 10, 2) := by decide +kernel
theorem dX17_init_58 : decode cX17_init 58 = .ok (.putfield 38, 3) := by decide +kernel
theorem dX17_init_61 : decode cX17_init 61 = .ok (.return_, 1) := by decide +kernel
set_option maxRecDepth 20000 in
theorem ggX17_goesBy_J0_indexOf_0f7a4 : GoodIn wsX17_goesBy wsJ0_indexOf_0f7a4 := goodIn_r _ [7, 8, 9, 10, 6, 11, 12, 13, 14, 15, 16, 17, 18, 19, 20, 21, 22, 23, 24, 25, 26, 27, 28, 29, 30, 31, 32, 33, 34, 35, 36, 37, 38, 39, 40, 41, 42, 43, 44, 45, 46, 47, 48, 49, 50, 51, 52, 53, 54, 55, 56, 57, 58, 59, 60, 61, 62, 63, 64, 65, 66, 67, 68, 69, 70, 71, 72, 73, 74, 75, 76, 77, 78, 79, 80, 81, 82, 83, 84, 85, 86, 87, 88, 89, 90, 91, 102, 103, 104, 105] (by decide +kernel) (by decide +kernel)
set_option maxRecDepth 20000 in
theorem gX17_goesBy_J0_indexOf_0f7a4 : GoodIn wsX17_goesBy (wsV RX17 44 RJ0 yJ0_indexOf_0f7a4 wsJ0_indexOf_0f7a4) := goodIn_app (goodIn_of _ (by decide +kernel)) ggX17_goesBy_J0_indexOf_0f7a4
theorem dX17_goesBy_0 : decode cX17_goesBy 0 = .ok (.ldc 42, 2) := by decide +kernel
theorem dX17_goesBy_2 : decode cX17_goesBy 2 = .ok (.aload_n 0, 1) := by decide +kernel
theorem dX17_goesBy_3 : decode cX17_goesBy 3 = .ok (.getfield 13, 3) := by decide +kernel
theorem dX17_goesBy_6 : decode cX17_goesBy 6 = .ok (.invokevirtual 44, 3) := by decide +kernel
theorem dX17_goesBy_9 : decode cX17_goesBy 9 = .ok (.ifCond .lt 15, 3) := by decide +kernel
theorem dX17_goesBy_12 : decode cX17_goesBy 12 = .ok (.aload_n 0, 1) := by decide +kernel
theorem dX17_goesBy_13 : decode cX17_goesBy 13 = .ok (.getfield 29, 3) := by decide +kernel
theorem dX17_goesBy_16 : decode cX17_goesBy 16 = .ok (.iload_n 1, 1) := by decide +kernel
theorem dX17_goesBy_17 : decode cX17_goesBy 17 = .ok (.if_icmp .ge 7, 3) := by decide +kernel
theorem dX17_goesBy_20 : decode cX17_goesBy 20 = .ok (.iconst 1, 1) := by decide +kernel
theorem dX17_goesBy_21 : decode cX17_goesBy 21 = .ok (.goto 4, 3) := by decide +kernel
theorem dX17_goesBy_24 : decode cX17_goesBy 24 = .ok (.iconst 0, 1) := by decide +kernel
theorem dX17_goesBy_25 : decode cX17_goesBy 25 = .ok (.ireturn, 1) := by decide +kernel
theorem dX17_swellsBy_0 : decode cX17_swellsBy 0 = .ok (.aload_n 0, 1) := by decide +kernel
theorem dX17_swellsBy_1 : decode cX17_swellsBy 1 = .ok (.getfield 13, 3) := by decide +kernel
theorem dX17_swellsBy_4 : decode cX17_swellsBy 4 = .ok (.bipush 112, 2) := by decide +kernel
theorem dX17_swellsBy_6 : decode cX17_swellsBy 6 = .ok (.if_icmp .eq 12, 3) := by decide +kernel
theorem dX17_swellsBy_9 : decode cX17_swellsBy 9 = .ok (.aload_n 0, 1) := by decide +kernel
theorem dX17_swellsBy_10 : decode cX17_swellsBy 10 = .ok (.getfield 13, 3) := by decide +kernel
theorem dX17_swellsBy_13 : decode cX17_swellsBy 13 = .ok (.bipush 122, 2) := by decide +kernel
theorem dX17_swellsBy_15 : decode cX17_swellsBy 15 = .ok (.if_icmp .ne 15, 3) := by decide +kernel
theorem dX17_swellsBy_18 : decode cX17_swellsBy 18 = .ok (.aload_n 0, 1) := by decide +kernel
theorem dX17_swellsBy_19 : decode cX17_swellsBy 19 = .ok (.getfield 29, 3) := by decide +kernel
theorem dX17_swellsBy_22 : decode cX17_swellsBy 22 = .ok (.iload_n 1, 1) := by decide +kernel
theorem dX17_swellsBy_23 : decode cX17_swellsBy 23 = .ok (.if_icmp .gt 7, 3) := by decide +kernel
theorem dX17_swellsBy_26 : decode cX17_swellsBy 26 = .ok (.iconst 1, 1) := by decide +kernel
theorem dX17_swellsBy_27 : decode cX17_swellsBy 27 = .ok (.goto 4, 3) := by decide +kernel
theorem dX17_swellsBy_30 : decode cX17_swellsBy 30 = .ok (.iconst 0, 1) := by decide +kernel
theorem dX17_swellsBy_31 : decode cX17_swellsBy 31 = .ok (.ireturn, 1) := by decide +kernel
set_option maxRecDepth 20000 in
theorem ggX18_init_Jx4a65c_init_da8c8 : GoodIn wsX18_init wsJx4a65c_init_da8c8 := goodIn_r _ [29, 30, 31, 32, 33, 34, 35, 36, 37, 38, 39, 40, 41, 2, 3, 63, 64, 65] (by decide +kernel) (by decide +kernel)
set_option maxRecDepth 20000 in
theorem gX18_init_Jx4a65c_init_da8c8 : GoodIn wsX18_init (wsJx4a65c_init_da8c8) := ggX18_init_Jx4a65c_init_da8c8
set_option maxRecDepth 20000 in
theorem ggX18_init_X14_init : GoodIn wsX18_init wsX14_init := goodIn_r _ [44, 45, 46, 2, 3, 47, 48, 49, 5, 6, 50, 51, 52, 53, 54, 28, 29, 30, 31, 32, 33, 34, 35, 36, 37, 38, 39, 40, 41, 55, 56, 57, 58, 59, 60, 61, 62, 83, 84, 85, 86, 87, 88, 63, 64, 65, 89, 90, 91] (by decide +kernel) (by decide +kernel)
set_option maxRecDepth 20000 in
theorem gX18_init_X14_init : GoodIn wsX18_init (wsX14_init) := ggX18_init_X14_init
theorem dX18_init_0 : decode cX18_init 0 = .ok (.aload_n 0, 1) := by decide +kernel
theorem dX18_init_1 : decode cX18_init 1 = .ok (.invokespecial 1, 3) := by decide +kernel
theorem dX18_init_4 : decode cX18_init 4 = .ok (.aload_n 0, 1) := by decide +kernel
theorem dX18_init_5 : decode cX18_init 5 = .ok (.new 7, 3) := by decide +kernel
theorem dX18_init_8 : decode cX18_init 8 = .ok (.dup, 1) := by decide +kernel
theorem dX18_init_9 : decode cX18_init 9 = .ok (.invokespecial 9, 3) := by decide +kernel
theorem dX18_init_12 : decode cX18_init 12 = .ok (.putfield 10, 3) := by decide +kernel
theorem dX18_init_15 : decode cX18_init 15 = .ok (.aload_n 0, 1) := by decide +kernel
theorem dX18_init_16 : decode cX18_init 16 = .ok (.sipush 144, 3) := by decide +kernel
theorem dX18_init_19 : decode cX18_init 19 = .ok (.newarray .boolean, 2) := by decide +kernel
theorem dX18_init_21 : decode cX18_init 21 = .ok (.putfield 16, 3) := by decide +kernel
theorem dX18_init_24 : decode cX18_init 24 = .ok (.aload_n 0, 1) := by decide +kernel
theorem dX18_init_25 : decode cX18_init 25 = .ok (.new 20, 3) := by decide +kernel
theorem dX18_init_28 : decode cX18_init 28 = .ok (.dup, 1) := by decide +kernel
theorem dX18_init_29 : decode cX18_init 29 = .ok (.aload_n 0, 1) := by decide +kernel
theorem dX18_init_30 : decode cX18_init 30 = .ok (.invokespecial 22, 3) := by decide +kernel
theorem dX18_init_33 : decode cX18_init 33 = .ok (.putfield 25, 3) := by decide +kernel
theorem dX18_init_36 : decode cX18_init 36 = .ok (.aload_n 0, 1) := by decide +kernel
theorem dX18_init_37 : decode cX18_init 37 = .ok (.new 7, 3) := by decide +kernel
theorem dX18_init_40 : decode cX18_init 40 = .ok (.dup, 1) := by decide +kernel
theorem dX18_init_41 : decode cX18_init 41 = .ok (.invokespecial 9, 3) := by decide +kernel
theorem dX18_init_44 : decode cX18_init 44 = .ok (.putfield 29, 3) := by decide +kernel
theorem dX18_init_47 : decode cX18_init 47 = .ok (.aload_n 0, 1) := by decide +kernel
theorem dX18_init_48 : decode cX18_init 48 = .ok (.iconst 5, 1) := by decide +kernel
theorem dX18_init_49 : decode cX18_init 49 = .ok (.putfield 32, 3) := by decide +kernel
theorem dX18_init_52 : decode cX18_init 52 = .ok (.aload_n 0, 1) := by decide +kernel
theorem dX18_init_53 : decode cX18_init 53 = .ok (.bipush 50, 2) := by decide +kernel
theorem dX18_init_55 : decode cX18_init 55 = .ok (.putfield 36, 3) := by decide +kernel
theorem dX18_init_58 : decode cX18_init 58 = .ok (.aload_n 0, 1) := by decide +kernel
theorem dX18_init_59 : decode cX18_init 59 = .ok (.sipush 240, 3) := by decide +kernel
theorem dX18_init_62 : decode cX18_init 62 = .ok (.newarray .int, 2) := by decide +kernel
theorem dX18_init_64 : decode cX18_init 64 = .ok (.putfield 39, 3) := by decide +kernel
theorem dX18_init_67 : decode cX18_init 67 = .ok (.aload_n 0, 1) := by decide +kernel
theorem dX18_init_68 : decode cX18_init 68 = .ok (.sipush 240, 3) := by decide +kernel
theorem dX18_init_71 : decode cX18_init 71 = .ok (.newarray .boolean, 2) := by decide +kernel
theorem dX18_init_73 : decode cX18_init 73 = .ok (.putfield 43, 3) := by decide +kernel
theorem dX18_init_76 : decode cX18_init 76 = .ok (.aload_n 0, 1) := by decide +kernel
theorem dX18_init_77 : decode cX18_init 77 = .ok (.sipush 1600, 3) := by decide +kernel
theorem dX18_init_80 : decode cX18_init 80 = .ok (.putfield 46, 3) := by decide +kernel
theorem dX18_init_83 : decode cX18_init 83 = .ok (.aload_n 0, 1) := by decide +kernel
theorem dX18_init_84 : decode cX18_init 84 = .ok (.new 7, 3) := by decide +kernel
theorem dX18_init_87 : decode cX18_init 87 = .ok (.dup, 1) := by decide +kernel
theorem dX18_init_88 : decode cX18_init 88 = .ok (.invokespecial 9, 3) := by decide +kernel
theorem dX18_init_91 : decode cX18_init 91 = .ok (.putfield 49, 3) := by decide +kernel
theorem dX18_init_94 : decode cX18_init 94 = .ok (.aload_n 0, 1) := by decide +kernel
theorem dX18_init_95 : decode cX18_init 95 = .ok (.new 7, 3) := by decide +kernel
theorem dX18_init_98 : decode cX18_init 98 = .ok (.dup, 1) := by decide +kernel
theorem dX18_init_99 : decode cX18_init 99 = .ok (.invokespecial 9, 3) := by decide +kernel
theorem dX18_init_102 : decode cX18_init 102 = .ok (.putfield 52, 3) := by decide +kernel
theorem dX18_init_105 : decode cX18_init 105 = .ok (.aload_n 0, 1) := by decide +kernel
theorem dX18_init_106 : decode cX18_init 106 = .ok (.new 7, 3) := by decide +kernel
theorem dX18_init_109 : decode cX18_init 109 = .ok (.dup, 1) := by decide +kernel
theorem dX18_init_110 : decode cX18_init 110 = .ok (.invokespecial 9, 3) := by decide +kernel
theorem dX18_init_113 : decode cX18_init 113 = .ok (.putfield 55, 3) := by decide +kernel
theorem dX18_init_116 : decode cX18_init 116 = .ok (.aload_n 0, 1) := by decide +kernel
theorem dX18_init_117 : decode cX18_init 117 = .ok (.new 7, 3) := by decide +kernel
theorem dX18_init_120 : decode cX18_init 120 = .ok (.dup, 1) := by decide +kernel
theorem dX18_init_121 : decode cX18_init 121 = .ok (.invokespecial 9, 3) := by decide +kernel
theorem dX18_init_124 : decode cX18_init 124 = .ok (.putfield 58, 3) := by decide +kernel
theorem dX18_init_127 : decode cX18_init 127 = .ok (.aload_n 0, 1) := by decide +kernel
theorem dX18_init_128 : decode cX18_init 128 = .ok (.new 7, 3) := by decide +kernel
theorem dX18_init_131 : decode cX18_init 131 = .ok (.dup, 1) := by decide +kernel
theorem dX18_init_132 : decode cX18_init 132 = .ok (.invokespecial 9, 3) := by decide +kernel
theorem dX18_init_135 : decode cX18_init 135 = .ok (.putfield 61, 3) := by decide +kernel
theorem dX18_init_138 : decode cX18_init 138 = .ok (.aload_n 0, 1) := by decide +kernel
theorem dX18_init_139 : decode cX18_init 139 = .ok (.new 7, 3) := by decide +kernel
theorem dX18_init_142 : decode cX18_init 142 = .ok (.dup, 1) := by decide +kernel
theorem dX18_init_143 : decode cX18_init 143 = .ok (.invokespecial 9, 3) := by decide +kernel
theorem dX18_init_146 : decode cX18_init 146 = .ok (.putfield 64, 3) := by decide +kernel
theorem dX18_init_149 : decode cX18_init 149 = .ok (.return_, 1) := by decide +kernel
theorem dX18_thrown_0 : decode cX18_thrown 0 = .ok (.aload_n 0, 1) := by decide +kernel
theorem dX18_thrown_1 : decode cX18_thrown 1 = .ok (.getfield 67, 3) := by decide +kernel
theorem dX18_thrown_4 : decode cX18_thrown 4 = .ok (.ireturn, 1) := by decide +kernel
theorem dX18_in_0 : decode cX18_in 0 = .ok (.iload_n 0, 1) := by decide +kernel
theorem dX18_in_1 : decode cX18_in 1 = .ok (.iload_n 1, 1) := by decide +kernel
theorem dX18_in_2 : decode cX18_in 2 = .ok (.if_icmp .lt 12, 3) := by decide +kernel
theorem dX18_in_5 : decode cX18_in 5 = .ok (.iload_n 0, 1) := by decide +kernel
theorem dX18_in_6 : decode cX18_in 6 = .ok (.iload_n 2, 1) := by decide +kernel
theorem dX18_in_7 : decode cX18_in 7 = .ok (.if_icmp .gt 7, 3) := by decide +kernel
theorem dX18_in_10 : decode cX18_in 10 = .ok (.iconst 1, 1) := by decide +kernel
theorem dX18_in_11 : decode cX18_in 11 = .ok (.goto 4, 3) := by decide +kernel
theorem dX18_in_14 : decode cX18_in 14 = .ok (.iconst 0, 1) := by decide +kernel
theorem dX18_in_15 : decode cX18_in 15 = .ok (.ireturn, 1) := by decide +kernel
theorem dX18_fails_0 : decode cX18_fails 0 = .ok (.aload_n 0, 1) := by decide +kernel
theorem dX18_fails_1 : decode cX18_fails 1 = .ok (.iload_n 1, 1) := by decide +kernel
theorem dX18_fails_2 : decode cX18_fails 2 = .ok (.putfield 67, 3) := by decide +kernel
theorem dX18_fails_5 : decode cX18_fails 5 = .ok (.iconst 0, 1) := by decide +kernel
theorem dX18_fails_6 : decode cX18_fails 6 = .ok (.ireturn, 1) := by decide +kernel
theorem dX18_failsBoolean_0 : decode cX18_failsBoolean 0 = .ok (.aload_n 0, 1) := by decide +kernel
theorem dX18_failsBoolean_1 : decode cX18_failsBoolean 1 = .ok (.iload_n 1, 1) := by decide +kernel
theorem dX18_failsBoolean_2 : decode cX18_failsBoolean 2 = .ok (.putfield 67, 3) := by decide +kernel
theorem dX18_failsBoolean_5 : decode cX18_failsBoolean 5 = .ok (.iconst 0, 1) := by decide +kernel
theorem dX18_failsBoolean_6 : decode cX18_failsBoolean 6 = .ok (.ireturn, 1) := by decide +kernel
set_option maxRecDepth 20000 in
theorem ggX18_isPlace_X18_in : GoodIn wsX18_isPlace wsX18_in := goodIn_r _ [4] (by decide +kernel) (by decide +kernel)
set_option maxRecDepth 20000 in
theorem gX18_isPlace_X18_in : GoodIn wsX18_isPlace (va_wsS RX18 70 yX18_in wsX18_in) := goodIn_app (goodIn_of _ (by decide +kernel)) ggX18_isPlace_X18_in
theorem dX18_isPlace_0 : decode cX18_isPlace 0 = .ok (.iload_n 0, 1) := by decide +kernel
theorem dX18_isPlace_1 : decode cX18_isPlace 1 = .ok (.iconst 0, 1) := by decide +kernel
theorem dX18_isPlace_2 : decode cX18_isPlace 2 = .ok (.bipush 7, 2) := by decide +kernel
theorem dX18_isPlace_4 : decode cX18_isPlace 4 = .ok (.invokestatic 70, 3) := by decide +kernel
theorem dX18_isPlace_7 : decode cX18_isPlace 7 = .ok (.ifCond .eq 16, 3) := by decide +kernel
theorem dX18_isPlace_10 : decode cX18_isPlace 10 = .ok (.iload_n 1, 1) := by decide +kernel
theorem dX18_isPlace_11 : decode cX18_isPlace 11 = .ok (.iconst 0, 1) := by decide +kernel
theorem dX18_isPlace_12 : decode cX18_isPlace 12 = .ok (.iconst 5, 1) := by decide +kernel
theorem dX18_isPlace_13 : decode cX18_isPlace 13 = .ok (.invokestatic 70, 3) := by decide +kernel
theorem dX18_isPlace_16 : decode cX18_isPlace 16 = .ok (.ifCond .eq 7, 3) := by decide +kernel
theorem dX18_isPlace_19 : decode cX18_isPlace 19 = .ok (.iconst 1, 1) := by decide +kernel
theorem dX18_isPlace_20 : decode cX18_isPlace 20 = .ok (.goto 4, 3) := by decide +kernel
theorem dX18_isPlace_23 : decode cX18_isPlace 23 = .ok (.iconst 0, 1) := by decide +kernel
theorem dX18_isPlace_24 : decode cX18_isPlace 24 = .ok (.ireturn, 1) := by decide +kernel
set_option maxRecDepth 20000 in
theorem ggX18_isStuff_Jx4a65c_size_8abf5 : GoodIn wsX18_isStuff wsJx4a65c_size_8abf5 := goodIn_r _ [6, 7, 29, 30, 31] (by decide +kernel) (by decide +kernel)
set_option maxRecDepth 20000 in
theorem gX18_isStuff_Jx4a65c_size_8abf5_f74Jx4a65c : GoodIn wsX18_isStuff (va_wsF RX18 74 RJx4a65c ⟨"java/util/List", "size", "()I"⟩ yJx4a65c_size_8abf5 wsJx4a65c_size_8abf5) := goodIn_app (goodIn_of _ (by decide +kernel)) ggX18_isStuff_Jx4a65c_size_8abf5
set_option maxRecDepth 20000 in
theorem ggX18_isStuff_X18_in : GoodIn wsX18_isStuff wsX18_in := goodIn_r _ [11] (by decide +kernel) (by decide +kernel)
set_option maxRecDepth 20000 in
theorem gX18_isStuff_X18_in : GoodIn wsX18_isStuff (va_wsS RX18 70 yX18_in wsX18_in) := goodIn_app (goodIn_of _ (by decide +kernel)) ggX18_isStuff_X18_in
theorem dX18_isStuff_0 : decode cX18_isStuff 0 = .ok (.iload_n 1, 1) := by decide +kernel
theorem dX18_isStuff_1 : decode cX18_isStuff 1 = .ok (.iconst 0, 1) := by decide +kernel
theorem dX18_isStuff_2 : decode cX18_isStuff 2 = .ok (.aload_n 0, 1) := by decide +kernel
theorem dX18_isStuff_3 : decode cX18_isStuff 3 = .ok (.getfield 10, 3) := by decide +kernel
theorem dX18_isStuff_6 : decode cX18_isStuff 6 = .ok (.invokeinterface 74 1, 5) := by decide +kernel
theorem dX18_isStuff_11 : decode cX18_isStuff 11 = .ok (.iconst 1, 1) := by decide +kernel
theorem dX18_isStuff_12 : decode cX18_isStuff 12 = .ok (.isub, 1) := by decide +kernel
theorem dX18_isStuff_13 : decode cX18_isStuff 13 = .ok (.invokestatic 70, 3) := by decide +kernel
theorem dX18_isStuff_16 : decode cX18_isStuff 16 = .ok (.ireturn, 1) := by decide +kernel
set_option maxRecDepth 20000 in
theorem ggX18_stuff_J0_indexOf_0f7a4 : GoodIn wsX18_stuff wsJ0_indexOf_0f7a4 := goodIn_r _ [10, 11, 12, 13, 9, 14, 15, 16, 17, 18, 19, 20, 21, 22, 23, 24, 25, 26, 27, 28, 29, 30, 31, 32, 33, 34, 35, 36, 37, 38, 39, 40, 41, 42, 43, 44, 45, 46, 47, 48, 49, 50, 51, 52, 53, 54, 55, 56, 57, 58, 59, 60, 61, 62, 63, 64, 65, 66, 67, 68, 69, 70, 71, 72, 73, 74, 75, 76, 77, 78, 79, 80, 81, 82, 83, 84, 85, 86, 87, 88, 89, 90, 91, 92, 93, 94, 201, 202, 203, 204] (by decide +kernel) (by decide +kernel)
set_option maxRecDepth 20000 in
theorem gX18_stuff_J0_indexOf_0f7a4 : GoodIn wsX18_stuff (wsV RX18 82 RJ0 yJ0_indexOf_0f7a4 wsJ0_indexOf_0f7a4) := goodIn_app (goodIn_of _ (by decide +kernel)) ggX18_stuff_J0_indexOf_0f7a4
set_option maxRecDepth 20000 in
theorem ggX18_stuff_X18_in : GoodIn wsX18_stuff wsX18_in := goodIn_r _ [98] (by decide +kernel) (by decide +kernel)
set_option maxRecDepth 20000 in
theorem gX18_stuff_X18_in : GoodIn wsX18_stuff (va_wsS RX18 70 yX18_in wsX18_in) := goodIn_app (goodIn_of _ (by decide +kernel)) ggX18_stuff_X18_in
set_option maxRecDepth 20000 in
theorem ggX18_stuff_X18_fails : GoodIn wsX18_stuff wsX18_fails := goodIn_r _ [102, 1, 174, 175, 176, 177, 178, 179, 180, 181, 182, 183, 184, 185, 186, 187, 188, 189, 190] (by decide +kernel) (by decide +kernel)
set_option maxRecDepth 20000 in
theorem gX18_stuff_X18_fails : GoodIn wsX18_stuff (wsV RX18 88 RX18 yX18_fails wsX18_fails) := goodIn_app (goodIn_of _ (by decide +kernel)) ggX18_stuff_X18_fails
set_option maxRecDepth 20000 in
theorem ggX18_stuff_Jx4a65c_size_8abf5 : GoodIn wsX18_stuff wsJx4a65c_size_8abf5 := goodIn_r _ [107, 108, 205, 206, 207] (by decide +kernel) (by decide +kernel)
set_option maxRecDepth 20000 in
theorem gX18_stuff_Jx4a65c_size_8abf5_f74Jx4a65c : GoodIn wsX18_stuff (va_wsF RX18 74 RJx4a65c ⟨"java/util/List", "size", "()I"⟩ yJx4a65c_size_8abf5 wsJx4a65c_size_8abf5) := goodIn_app (goodIn_of _ (by decide +kernel)) ggX18_stuff_Jx4a65c_size_8abf5
set_option maxRecDepth 20000 in
theorem ggX18_stuff_X17_init : GoodIn wsX18_stuff wsX17_init := goodIn_r _ [111, 112, 113, 114, 115, 116, 117, 118, 119, 120, 121, 122, 123, 124, 191, 192, 193, 194, 195, 196, 197, 198, 199, 200] (by decide +kernel) (by decide +kernel)
set_option maxRecDepth 20000 in
theorem gX18_stuff_X17_init : GoodIn wsX18_stuff (wsX17_init) := ggX18_stuff_X17_init
set_option maxRecDepth 20000 in
theorem ggX18_stuff_Jx4a65c_add_9ea2d : GoodIn wsX18_stuff wsJx4a65c_add_9ea2d := goodIn_r _ [128, 129, 130, 131, 108, 132, 133, 134, 106, 135, 136, 137, 138, 139, 140, 141, 142, 143, 144, 145, 35, 36, 37, 146, 147, 148, 149, 150, 151, 152, 153, 154, 155, 156, 157, 158, 159, 160, 161, 162, 163, 164, 165, 166, 167, 168, 169, 39, 40, 170, 171, 172, 173, 205, 206, 207] (by decide +kernel) (by decide +kernel)
set_option maxRecDepth 20000 in
theorem gX18_stuff_Jx4a65c_add_9ea2d_f96Jx4a65c : GoodIn wsX18_stuff (va_wsF RX18 96 RJx4a65c ⟨"java/util/List", "add", "(Ljava/lang/Object;)Z"⟩ yJx4a65c_add_9ea2d wsJx4a65c_add_9ea2d) := goodIn_app (goodIn_of _ (by decide +kernel)) ggX18_stuff_Jx4a65c_add_9ea2d
theorem dX18_stuff_0 : decode cX18_stuff 0 = .ok (.aload_n 0, 1) := by decide +kernel
theorem dX18_stuff_1 : decode cX18_stuff 1 = .ok (.iconst 0, 1) := by decide +kernel
theorem dX18_stuff_2 : decode cX18_stuff 2 = .ok (.putfield 67, 3) := by decide +kernel
theorem dX18_stuff_5 : decode cX18_stuff 5 = .ok (.ldc 80, 2) := by decide +kernel
theorem dX18_stuff_7 : decode cX18_stuff 7 = .ok (.iload_n 1, 1) := by decide +kernel
theorem dX18_stuff_8 : decode cX18_stuff 8 = .ok (.invokevirtual 82, 3) := by decide +kernel
theorem dX18_stuff_11 : decode cX18_stuff 11 = .ok (.ifCond .lt 49, 3) := by decide +kernel
theorem dX18_stuff_14 : decode cX18_stuff 14 = .ok (.iload_n 2, 1) := by decide +kernel
theorem dX18_stuff_15 : decode cX18_stuff 15 = .ok (.iconst 0, 1) := by decide +kernel
theorem dX18_stuff_16 : decode cX18_stuff 16 = .ok (.bipush 99, 2) := by decide +kernel
theorem dX18_stuff_18 : decode cX18_stuff 18 = .ok (.invokestatic 70, 3) := by decide +kernel
theorem dX18_stuff_21 : decode cX18_stuff 21 = .ok (.ifCond .eq 39, 3) := by decide +kernel
theorem dX18_stuff_24 : decode cX18_stuff 24 = .ok (.iload_n 3, 1) := by decide +kernel
theorem dX18_stuff_25 : decode cX18_stuff 25 = .ok (.iconst 1, 1) := by decide +kernel
theorem dX18_stuff_26 : decode cX18_stuff 26 = .ok (.bipush 100, 2) := by decide +kernel
theorem dX18_stuff_28 : decode cX18_stuff 28 = .ok (.invokestatic 70, 3) := by decide +kernel
theorem dX18_stuff_31 : decode cX18_stuff 31 = .ok (.ifCond .eq 29, 3) := by decide +kernel
theorem dX18_stuff_34 : decode cX18_stuff 34 = .ok (.iload 4, 2) := by decide +kernel
theorem dX18_stuff_36 : decode cX18_stuff 36 = .ok (.iconst 0, 1) := by decide +kernel
theorem dX18_stuff_37 : decode cX18_stuff 37 = .ok (.bipush 9, 2) := by decide +kernel
theorem dX18_stuff_39 : decode cX18_stuff 39 = .ok (.invokestatic 70, 3) := by decide +kernel
theorem dX18_stuff_42 : decode cX18_stuff 42 = .ok (.ifCond .eq 18, 3) := by decide +kernel
theorem dX18_stuff_45 : decode cX18_stuff 45 = .ok (.iload 5, 2) := by decide +kernel
theorem dX18_stuff_47 : decode cX18_stuff 47 = .ok (.iconst 0, 1) := by decide +kernel
theorem dX18_stuff_48 : decode cX18_stuff 48 = .ok (.bipush 9, 2) := by decide +kernel
theorem dX18_stuff_50 : decode cX18_stuff 50 = .ok (.invokestatic 70, 3) := by decide +kernel
theorem dX18_stuff_53 : decode cX18_stuff 53 = .ok (.ifCond .eq 7, 3) := by decide +kernel
theorem dX18_stuff_56 : decode cX18_stuff 56 = .ok (.iconst 1, 1) := by decide +kernel
theorem dX18_stuff_57 : decode cX18_stuff 57 = .ok (.goto 4, 3) := by decide +kernel
theorem dX18_stuff_60 : decode cX18_stuff 60 = .ok (.iconst 0, 1) := by decide +kernel
theorem dX18_stuff_61 : decode cX18_stuff 61 = .ok (.istore 10, 2) := by decide +kernel
theorem dX18_stuff_63 : decode cX18_stuff 63 = .ok (.iload 10, 2) := by decide +kernel
theorem dX18_stuff_65 : decode cX18_stuff 65 = .ok (.ifCond .eq 37, 3) := by decide +kernel
theorem dX18_stuff_68 : decode cX18_stuff 68 = .ok (.iload 6, 2) := by decide +kernel
theorem dX18_stuff_70 : decode cX18_stuff 70 = .ok (.iconst 0, 1) := by decide +kernel
theorem dX18_stuff_71 : decode cX18_stuff 71 = .ok (.bipush 9, 2) := by decide +kernel
theorem dX18_stuff_73 : decode cX18_stuff 73 = .ok (.invokestatic 70, 3) := by decide +kernel
theorem dX18_stuff_76 : decode cX18_stuff 76 = .ok (.ifCond .eq 26, 3) := by decide +kernel
theorem dX18_stuff_79 : decode cX18_stuff 79 = .ok (.iload 7, 2) := by decide +kernel
theorem dX18_stuff_81 : decode cX18_stuff 81 = .ok (.iconst 0, 1) := by decide +kernel
theorem dX18_stuff_82 : decode cX18_stuff 82 = .ok (.bipush 9, 2) := by decide +kernel
theorem dX18_stuff_84 : decode cX18_stuff 84 = .ok (.invokestatic 70, 3) := by decide +kernel
theorem dX18_stuff_87 : decode cX18_stuff 87 = .ok (.ifCond .eq 15, 3) := by decide +kernel
theorem dX18_stuff_90 : decode cX18_stuff 90 = .ok (.iload 8, 2) := by decide +kernel
theorem dX18_stuff_92 : decode cX18_stuff 92 = .ok (.iconst 0, 1) := by decide +kernel
theorem dX18_stuff_93 : decode cX18_stuff 93 = .ok (.sipush 9999, 3) := by decide +kernel
theorem dX18_stuff_96 : decode cX18_stuff 96 = .ok (.invokestatic 70, 3) := by decide +kernel
theorem dX18_stuff_99 : decode cX18_stuff 99 = .ok (.ifCond .ne 9, 3) := by decide +kernel
theorem dX18_stuff_102 : decode cX18_stuff 102 = .ok (.aload_n 0, 1) := by decide +kernel
theorem dX18_stuff_103 : decode cX18_stuff 103 = .ok (.iconst 1, 1) := by decide +kernel
theorem dX18_stuff_104 : decode cX18_stuff 104 = .ok (.invokevirtual 88, 3) := by decide +kernel
theorem dX18_stuff_107 : decode cX18_stuff 107 = .ok (.ireturn, 1) := by decide +kernel
theorem dX18_stuff_108 : decode cX18_stuff 108 = .ok (.aload_n 0, 1) := by decide +kernel
theorem dX18_stuff_109 : decode cX18_stuff 109 = .ok (.getfield 10, 3) := by decide +kernel
theorem dX18_stuff_112 : decode cX18_stuff 112 = .ok (.invokeinterface 74 1, 5) := by decide +kernel
theorem dX18_stuff_117 : decode cX18_stuff 117 = .ok (.bipush 12, 2) := by decide +kernel
theorem dX18_stuff_119 : decode cX18_stuff 119 = .ok (.if_icmp .ne 9, 3) := by decide +kernel
theorem dX18_stuff_122 : decode cX18_stuff 122 = .ok (.aload_n 0, 1) := by decide +kernel
theorem dX18_stuff_123 : decode cX18_stuff 123 = .ok (.iconst 2, 1) := by decide +kernel
theorem dX18_stuff_124 : decode cX18_stuff 124 = .ok (.invokevirtual 88, 3) := by decide +kernel
theorem dX18_stuff_127 : decode cX18_stuff 127 = .ok (.ireturn, 1) := by decide +kernel
theorem dX18_stuff_128 : decode cX18_stuff 128 = .ok (.aload_n 0, 1) := by decide +kernel
theorem dX18_stuff_129 : decode cX18_stuff 129 = .ok (.getfield 10, 3) := by decide +kernel
theorem dX18_stuff_132 : decode cX18_stuff 132 = .ok (.new 91, 3) := by decide +kernel
theorem dX18_stuff_135 : decode cX18_stuff 135 = .ok (.dup, 1) := by decide +kernel
theorem dX18_stuff_136 : decode cX18_stuff 136 = .ok (.aload_n 0, 1) := by decide +kernel
theorem dX18_stuff_137 : decode cX18_stuff 137 = .ok (.getfield 10, 3) := by decide +kernel
theorem dX18_stuff_140 : decode cX18_stuff 140 = .ok (.invokeinterface 74 1, 5) := by decide +kernel
theorem dX18_stuff_145 : decode cX18_stuff 145 = .ok (.iload_n 1, 1) := by decide +kernel
theorem dX18_stuff_146 : decode cX18_stuff 146 = .ok (.iload_n 2, 1) := by decide +kernel
theorem dX18_stuff_147 : decode cX18_stuff 147 = .ok (.iload_n 3, 1) := by decide +kernel
theorem dX18_stuff_148 : decode cX18_stuff 148 = .ok (.iload 4, 2) := by decide +kernel
theorem dX18_stuff_150 : decode cX18_stuff 150 = .ok (.iload 5, 2) := by decide +kernel
theorem dX18_stuff_152 : decode cX18_stuff 152 = .ok (.iload 6, 2) := by decide +kernel
theorem dX18_stuff_154 : decode cX18_stuff 154 = .ok (.iload 7, 2) := by decide +kernel
theorem dX18_stuff_156 : decode cX18_stuff 156 = .ok (.iload 8, 2) := by decide +kernel
theorem dX18_stuff_158 : decode cX18_stuff 158 = .ok (.iload 9, 2) := by decide +kernel
theorem dX18_stuff_160 : decode cX18_stuff 160 = .ok (.invokespecial 93, 3) := by decide +kernel
theorem dX18_stuff_163 : decode cX18_stuff 163 = .ok (.invokeinterface 96 2, 5) := by decide +kernel
theorem dX18_stuff_168 : decode cX18_stuff 168 = .ok (.pop, 1) := by decide +kernel
theorem dX18_stuff_169 : decode cX18_stuff 169 = .ok (.aload_n 0, 1) := by decide +kernel
theorem dX18_stuff_170 : decode cX18_stuff 170 = .ok (.getfield 10, 3) := by decide +kernel
theorem dX18_stuff_173 : decode cX18_stuff 173 = .ok (.invokeinterface 74 1, 5) := by decide +kernel
theorem dX18_stuff_178 : decode cX18_stuff 178 = .ok (.iconst 1, 1) := by decide +kernel
theorem dX18_stuff_179 : decode cX18_stuff 179 = .ok (.isub, 1) := by decide +kernel
theorem dX18_stuff_180 : decode cX18_stuff 180 = .ok (.ireturn, 1) := by decide +kernel
set_option maxRecDepth 20000 in
theorem ggX18_clash_X18_isStuff : GoodIn wsX18_clash wsX18_isStuff := goodIn_r _ [8, 9, 10, 11, 12, 13, 14, 15, 16, 17, 7, 18, 27, 28, 29, 30, 31, 32, 33, 34, 35, 36, 37, 38, 39, 40, 41, 42, 43, 44, 45, 46] (by decide +kernel) (by decide +kernel)
set_option maxRecDepth 20000 in
theorem gX18_clash_X18_isStuff : GoodIn wsX18_clash (wsV RX18 100 RX18 yX18_isStuff wsX18_isStuff) := goodIn_app (goodIn_of _ (by decide +kernel)) ggX18_clash_X18_isStuff
set_option maxRecDepth 20000 in
theorem ggX18_clash_X18_failsBoolean : GoodIn wsX18_clash wsX18_failsBoolean := goodIn_r _ [22, 2, 27, 28, 29, 30, 31, 32, 33, 34, 35, 36, 37, 38, 39, 40, 41, 42, 43] (by decide +kernel) (by decide +kernel)
set_option maxRecDepth 20000 in
theorem gX18_clash_X18_failsBoolean : GoodIn wsX18_clash (wsV RX18 104 RX18 yX18_failsBoolean wsX18_failsBoolean) := goodIn_app (goodIn_of _ (by decide +kernel)) ggX18_clash_X18_failsBoolean
set_option maxRecDepth 20000 in
theorem ggX18_clash_Jx4a65c_isEmpty_aae02 : GoodIn wsX18_clash wsJx4a65c_isEmpty_aae02 := goodIn_r _ [26, 15, 44, 45, 46] (by decide +kernel) (by decide +kernel)
set_option maxRecDepth 20000 in
theorem gX18_clash_Jx4a65c_isEmpty_aae02_f107Jx4a65c : GoodIn wsX18_clash (va_wsF RX18 107 RJx4a65c ⟨"java/util/List", "isEmpty", "()Z"⟩ yJx4a65c_isEmpty_aae02 wsJx4a65c_isEmpty_aae02) := goodIn_app (goodIn_of _ (by decide +kernel)) ggX18_clash_Jx4a65c_isEmpty_aae02
theorem dX18_clash_0 : decode cX18_clash 0 = .ok (.aload_n 0, 1) := by decide +kernel
theorem dX18_clash_1 : decode cX18_clash 1 = .ok (.iload_n 1, 1) := by decide +kernel
theorem dX18_clash_2 : decode cX18_clash 2 = .ok (.invokevirtual 100, 3) := by decide +kernel
theorem dX18_clash_5 : decode cX18_clash 5 = .ok (.ifCond .eq 11, 3) := by decide +kernel
theorem dX18_clash_8 : decode cX18_clash 8 = .ok (.aload_n 0, 1) := by decide +kernel
theorem dX18_clash_9 : decode cX18_clash 9 = .ok (.iload_n 2, 1) := by decide +kernel
theorem dX18_clash_10 : decode cX18_clash 10 = .ok (.invokevirtual 100, 3) := by decide +kernel
theorem dX18_clash_13 : decode cX18_clash 13 = .ok (.ifCond .ne 9, 3) := by decide +kernel
theorem dX18_clash_16 : decode cX18_clash 16 = .ok (.aload_n 0, 1) := by decide +kernel
theorem dX18_clash_17 : decode cX18_clash 17 = .ok (.iconst 1, 1) := by decide +kernel
theorem dX18_clash_18 : decode cX18_clash 18 = .ok (.invokevirtual 104, 3) := by decide +kernel
theorem dX18_clash_21 : decode cX18_clash 21 = .ok (.ireturn, 1) := by decide +kernel
theorem dX18_clash_22 : decode cX18_clash 22 = .ok (.aload_n 0, 1) := by decide +kernel
theorem dX18_clash_23 : decode cX18_clash 23 = .ok (.getfield 29, 3) := by decide +kernel
theorem dX18_clash_26 : decode cX18_clash 26 = .ok (.invokeinterface 107 1, 5) := by decide +kernel
theorem dX18_clash_31 : decode cX18_clash 31 = .ok (.ifCond .ne 9, 3) := by decide +kernel
theorem dX18_clash_34 : decode cX18_clash 34 = .ok (.aload_n 0, 1) := by decide +kernel
theorem dX18_clash_35 : decode cX18_clash 35 = .ok (.iconst 2, 1) := by decide +kernel
theorem dX18_clash_36 : decode cX18_clash 36 = .ok (.invokevirtual 104, 3) := by decide +kernel
theorem dX18_clash_39 : decode cX18_clash 39 = .ok (.ireturn, 1) := by decide +kernel
theorem dX18_clash_40 : decode cX18_clash 40 = .ok (.aload_n 0, 1) := by decide +kernel
theorem dX18_clash_41 : decode cX18_clash 41 = .ok (.iconst 0, 1) := by decide +kernel
theorem dX18_clash_42 : decode cX18_clash 42 = .ok (.putfield 67, 3) := by decide +kernel
theorem dX18_clash_45 : decode cX18_clash 45 = .ok (.aload_n 0, 1) := by decide +kernel
theorem dX18_clash_46 : decode cX18_clash 46 = .ok (.getfield 16, 3) := by decide +kernel
theorem dX18_clash_49 : decode cX18_clash 49 = .ok (.bipush 12, 2) := by decide +kernel
theorem dX18_clash_51 : decode cX18_clash 51 = .ok (.iload_n 1, 1) := by decide +kernel
theorem dX18_clash_52 : decode cX18_clash 52 = .ok (.imul, 1) := by decide +kernel
theorem dX18_clash_53 : decode cX18_clash 53 = .ok (.iload_n 2, 1) := by decide +kernel
theorem dX18_clash_54 : decode cX18_clash 54 = .ok (.iadd, 1) := by decide +kernel
theorem dX18_clash_55 : decode cX18_clash 55 = .ok (.baload, 1) := by decide +kernel
theorem dX18_clash_56 : decode cX18_clash 56 = .ok (.ifCond .ne 7, 3) := by decide +kernel
theorem dX18_clash_59 : decode cX18_clash 59 = .ok (.iconst 1, 1) := by decide +kernel
theorem dX18_clash_60 : decode cX18_clash 60 = .ok (.goto 4, 3) := by decide +kernel
theorem dX18_clash_63 : decode cX18_clash 63 = .ok (.iconst 0, 1) := by decide +kernel
theorem dX18_clash_64 : decode cX18_clash 64 = .ok (.istore_n 3, 1) := by decide +kernel
theorem dX18_clash_65 : decode cX18_clash 65 = .ok (.aload_n 0, 1) := by decide +kernel
theorem dX18_clash_66 : decode cX18_clash 66 = .ok (.getfield 16, 3) := by decide +kernel
theorem dX18_clash_69 : decode cX18_clash 69 = .ok (.bipush 12, 2) := by decide +kernel
theorem dX18_clash_71 : decode cX18_clash 71 = .ok (.iload_n 1, 1) := by decide +kernel
theorem dX18_clash_72 : decode cX18_clash 72 = .ok (.imul, 1) := by decide +kernel
theorem dX18_clash_73 : decode cX18_clash 73 = .ok (.iload_n 2, 1) := by decide +kernel
theorem dX18_clash_74 : decode cX18_clash 74 = .ok (.iadd, 1) := by decide +kernel
theorem dX18_clash_75 : decode cX18_clash 75 = .ok (.iconst 1, 1) := by decide +kernel
theorem dX18_clash_76 : decode cX18_clash 76 = .ok (.bastore, 1) := by decide +kernel
theorem dX18_clash_77 : decode cX18_clash 77 = .ok (.aload_n 0, 1) := by decide +kernel
theorem dX18_clash_78 : decode cX18_clash 78 = .ok (.getfield 16, 3) := by decide +kernel
theorem dX18_clash_81 : decode cX18_clash 81 = .ok (.bipush 12, 2) := by decide +kernel
theorem dX18_clash_83 : decode cX18_clash 83 = .ok (.iload_n 2, 1) := by decide +kernel
theorem dX18_clash_84 : decode cX18_clash 84 = .ok (.imul, 1) := by decide +kernel
theorem dX18_clash_85 : decode cX18_clash 85 = .ok (.iload_n 1, 1) := by decide +kernel
theorem dX18_clash_86 : decode cX18_clash 86 = .ok (.iadd, 1) := by decide +kernel
theorem dX18_clash_87 : decode cX18_clash 87 = .ok (.iconst 1, 1) := by decide +kernel
theorem dX18_clash_88 : decode cX18_clash 88 = .ok (.bastore, 1) := by decide +kernel
theorem dX18_clash_89 : decode cX18_clash 89 = .ok (.iload_n 3, 1) := by decide +kernel
theorem dX18_clash_90 : decode cX18_clash 90 = .ok (.ireturn, 1) := by decide +kernel
set_option maxRecDepth 20000 in
theorem ggX18_keeps_X14_copy : GoodIn wsX18_keeps wsX14_copy := goodIn_r _ [11, 12, 13, 10, 14, 15, 16, 17, 18, 19, 20, 21, 22, 23, 24, 25, 26, 27, 28, 29, 30, 31, 32, 33, 34, 35, 36, 37, 38, 39, 40, 41, 42, 43, 44, 45, 46, 47, 48, 49, 50, 51, 52, 53, 54, 55, 56, 57, 58, 59, 60, 61, 62, 63, 64, 65, 66, 67, 68, 69, 70, 71, 72, 73, 74, 75, 76, 77, 78, 79, 80, 81, 82, 83, 84, 85, 86, 5, 87, 88, 89, 90, 91, 92, 93, 94, 95, 96, 97, 98, 99, 100, 101, 102, 103, 104, 105, 106, 107, 108, 109, 110, 111, 112, 113, 114, 115, 116, 117, 118, 119, 120, 121, 122, 123, 124, 125, 126, 127, 128, 129, 130, 131, 132, 133, 134, 135, 136, 137, 138, 139, 140, 141, 142, 143, 144, 145, 146, 147, 148, 149, 150, 151, 152, 153, 154, 401, 402, 403, 404, 405, 406, 407, 408, 409, 410, 411, 412, 413, 414, 415, 416, 417, 418, 419, 420, 421] (by decide +kernel) (by decide +kernel)
set_option maxRecDepth 20000 in
theorem gX18_keeps_X14_copy : GoodIn wsX18_keeps (wsV RX18 111 RX14 yX14_copy wsX14_copy) := goodIn_app (goodIn_of _ (by decide +kernel)) ggX18_keeps_X14_copy
set_option maxRecDepth 20000 in
theorem ggX18_keeps_X14_does : GoodIn wsX18_keeps wsX14_does := goodIn_ca (goodIn_r _ [158, 14, 159, 15, 17, 160, 94, 5, 95, 161, 162, 163, 31, 164, 63, 165, 166, 167, 168, 169, 170, 171, 172, 173, 174, 175, 176, 38, 177, 178, 179, 10, 180, 19, 20, 21, 181, 182, 183, 184, 135, 136, 137, 138, 26, 27, 139, 140, 141, 142, 143, 144, 145, 146, 61, 62, 147, 148, 149, 150, 151, 152, 153, 154, 89, 90, 91, 92, 37, 93, 96, 97, 98, 99, 100, 101, 102, 103, 104, 105, 72, 73, 74, 75, 76, 77, 78, 79, 80, 81, 82, 83, 84, 85, 86, 87, 88, 65, 66, 67, 185, 186, 187, 188, 18, 189, 190, 4, 6, 191, 192, 193, 194, 195, 196, 197, 198, 199, 200, 201, 202, 203, 204, 205, 206, 207, 208, 209, 210, 211, 212, 213, 214, 215, 216, 217, 218, 219, 220, 221, 222, 223, 224, 225, 226, 227, 228, 229, 230, 231, 232, 233, 234, 235, 236, 237, 238, 239, 240, 241, 242, 243, 244, 245, 246, 247, 248, 249, 250, 251, 252, 253, 254, 255, 256, 257, 258, 259, 260, 261, 262, 263, 264, 265, 266, 267, 268, 269, 270, 271, 272, 273, 274, 275, 276, 277, 278, 279, 280, 33, 281, 282, 283, 284, 285, 286, 287, 54, 288, 289, 290, 291, 292, 293, 294, 295, 16, 296, 297, 298, 299, 300, 301, 302, 303, 304, 305, 306, 307, 308, 309, 310, 64, 311, 312, 313, 314, 315, 316, 317, 318, 319, 320, 321, 322, 323, 324, 325, 326, 327, 328, 329, 330, 331, 332, 333, 334, 335, 336, 337, 338, 339, 340, 341, 342, 343, 344, 345, 346, 347, 348, 349, 350, 351, 352, 353, 354, 107, 108, 109, 110, 111, 112, 113, 114, 115, 116, 117, 118, 119, 120, 355, 122, 123, 124, 125, 356, 127, 128, 129, 130, 131, 132, 133, 134, 357, 358, 359, 360, 361, 362, 363, 364, 365, 366, 367, 368, 369, 370, 371, 372, 373, 374, 375, 376, 422, 423, 401, 402, 403, 404, 405, 406, 384, 385, 386, 387, 388, 389, 390, 391, 392, 393, 394, 395, 396, 397, 398, 399, 400, 407, 408, 409, 415, 416, 417, 410, 411, 412, 413, 414, 424, 425, 426, 427, 428, 429, 430, 431, 432, 433, 434, 435, 436, 437, 438, 439, 418, 419, 420, 421] (by decide +kernel) (by decide +kernel)) (goodIn_sub (fun _ h => List.mem_cons_of_mem _ (List.mem_append_right _ h)) (by decide +kernel))
set_option maxRecDepth 20000 in
theorem gX18_keeps_X14_does : GoodIn wsX18_keeps (wsV RX18 115 RX14 yX14_does wsX14_does) := goodIn_app (goodIn_of _ (by decide +kernel)) ggX18_keeps_X14_does
set_option maxRecDepth 20000 in
theorem ggX18_keeps_X18_fails : GoodIn wsX18_keeps wsX18_fails := goodIn_r _ [380, 381, 384, 385, 386, 387, 388, 389, 390, 391, 392, 393, 394, 395, 396, 397, 398, 399, 400] (by decide +kernel) (by decide +kernel)
set_option maxRecDepth 20000 in
theorem gX18_keeps_X18_fails : GoodIn wsX18_keeps (wsV RX18 88 RX18 yX18_fails wsX18_fails) := goodIn_app (goodIn_of _ (by decide +kernel)) ggX18_keeps_X18_fails
set_option maxRecDepth 20000 in
theorem ggX18_keeps_Jx4a65c_size_8abf5 : GoodIn wsX18_keeps wsJx4a65c_size_8abf5 := goodIn_r _ [184, 63, 415, 416, 417] (by decide +kernel) (by decide +kernel)
set_option maxRecDepth 20000 in
theorem gX18_keeps_Jx4a65c_size_8abf5_f74Jx4a65c : GoodIn wsX18_keeps (va_wsF RX18 74 RJx4a65c ⟨"java/util/List", "size", "()I"⟩ yJx4a65c_size_8abf5 wsJx4a65c_size_8abf5) := goodIn_app (goodIn_of _ (by decide +kernel)) ggX18_keeps_Jx4a65c_size_8abf5
set_option maxRecDepth 20000 in
theorem ggX18_keeps_Jx4a65c_add_9ea2d : GoodIn wsX18_keeps wsJx4a65c_add_9ea2d := goodIn_r _ [146, 61, 62, 38, 63, 147, 148, 149, 31, 150, 151, 152, 153, 154, 89, 90, 91, 92, 37, 93, 94, 5, 95, 96, 97, 98, 99, 100, 101, 102, 103, 104, 105, 72, 73, 74, 75, 76, 77, 78, 79, 80, 81, 82, 83, 84, 85, 86, 87, 88, 65, 66, 67, 415, 416, 417] (by decide +kernel) (by decide +kernel)
set_option maxRecDepth 20000 in
theorem gX18_keeps_Jx4a65c_add_9ea2d_f96Jx4a65c : GoodIn wsX18_keeps (va_wsF RX18 96 RJx4a65c ⟨"java/util/List", "add", "(Ljava/lang/Object;)Z"⟩ yJx4a65c_add_9ea2d wsJx4a65c_add_9ea2d) := goodIn_app (goodIn_of _ (by decide +kernel)) ggX18_keeps_Jx4a65c_add_9ea2d
theorem dX18_keeps_0 : decode cX18_keeps 0 = .ok (.aload_n 0, 1) := by decide +kernel
theorem dX18_keeps_1 : decode cX18_keeps 1 = .ok (.getfield 25, 3) := by decide +kernel
theorem dX18_keeps_4 : decode cX18_keeps 4 = .ok (.invokevirtual 111, 3) := by decide +kernel
theorem dX18_keeps_7 : decode cX18_keeps 7 = .ok (.astore_n 3, 1) := by decide +kernel
theorem dX18_keeps_8 : decode cX18_keeps 8 = .ok (.aload_n 3, 1) := by decide +kernel
theorem dX18_keeps_9 : decode cX18_keeps 9 = .ok (.aload_n 1, 1) := by decide +kernel
theorem dX18_keeps_10 : decode cX18_keeps 10 = .ok (.invokevirtual 115, 3) := by decide +kernel
theorem dX18_keeps_13 : decode cX18_keeps 13 = .ok (.istore 4, 2) := by decide +kernel
theorem dX18_keeps_15 : decode cX18_keeps 15 = .ok (.iload 4, 2) := by decide +kernel
theorem dX18_keeps_17 : decode cX18_keeps 17 = .ok (.iconst (-1), 1) := by decide +kernel
theorem dX18_keeps_18 : decode cX18_keeps 18 = .ok (.if_icmp .ne 13, 3) := by decide +kernel
theorem dX18_keeps_21 : decode cX18_keeps 21 = .ok (.iload_n 2, 1) := by decide +kernel
theorem dX18_keeps_22 : decode cX18_keeps 22 = .ok (.ifCond .le 9, 3) := by decide +kernel
theorem dX18_keeps_25 : decode cX18_keeps 25 = .ok (.aload_n 0, 1) := by decide +kernel
theorem dX18_keeps_26 : decode cX18_keeps 26 = .ok (.iload_n 2, 1) := by decide +kernel
theorem dX18_keeps_27 : decode cX18_keeps 27 = .ok (.invokevirtual 88, 3) := by decide +kernel
theorem dX18_keeps_30 : decode cX18_keeps 30 = .ok (.ireturn, 1) := by decide +kernel
theorem dX18_keeps_31 : decode cX18_keeps 31 = .ok (.aload_n 0, 1) := by decide +kernel
theorem dX18_keeps_32 : decode cX18_keeps 32 = .ok (.getfield 29, 3) := by decide +kernel
theorem dX18_keeps_35 : decode cX18_keeps 35 = .ok (.invokeinterface 74 1, 5) := by decide +kernel
theorem dX18_keeps_40 : decode cX18_keeps 40 = .ok (.bipush 40, 2) := by decide +kernel
theorem dX18_keeps_42 : decode cX18_keeps 42 = .ok (.if_icmp .ne 14, 3) := by decide +kernel
theorem dX18_keeps_45 : decode cX18_keeps 45 = .ok (.aload_n 0, 1) := by decide +kernel
theorem dX18_keeps_46 : decode cX18_keeps 46 = .ok (.iload_n 2, 1) := by decide +kernel
theorem dX18_keeps_47 : decode cX18_keeps 47 = .ok (.invokestatic 119, 3) := by decide +kernel
theorem dX18_keeps_50 : decode cX18_keeps 50 = .ok (.iconst 1, 1) := by decide +kernel
theorem dX18_keeps_51 : decode cX18_keeps 51 = .ok (.iadd, 1) := by decide +kernel
theorem dX18_keeps_52 : decode cX18_keeps 52 = .ok (.invokevirtual 88, 3) := by decide +kernel
theorem dX18_keeps_55 : decode cX18_keeps 55 = .ok (.ireturn, 1) := by decide +kernel
theorem dX18_keeps_56 : decode cX18_keeps 56 = .ok (.aload_n 0, 1) := by decide +kernel
theorem dX18_keeps_57 : decode cX18_keeps 57 = .ok (.aload_n 3, 1) := by decide +kernel
theorem dX18_keeps_58 : decode cX18_keeps 58 = .ok (.putfield 25, 3) := by decide +kernel
theorem dX18_keeps_61 : decode cX18_keeps 61 = .ok (.aload_n 0, 1) := by decide +kernel
theorem dX18_keeps_62 : decode cX18_keeps 62 = .ok (.getfield 29, 3) := by decide +kernel
theorem dX18_keeps_65 : decode cX18_keeps 65 = .ok (.aload_n 1, 1) := by decide +kernel
theorem dX18_keeps_66 : decode cX18_keeps 66 = .ok (.invokeinterface 96 2, 5) := by decide +kernel
theorem dX18_keeps_71 : decode cX18_keeps 71 = .ok (.pop, 1) := by decide +kernel
theorem dX18_keeps_72 : decode cX18_keeps 72 = .ok (.iload 4, 2) := by decide +kernel
theorem dX18_keeps_74 : decode cX18_keeps 74 = .ok (.ireturn, 1) := by decide +kernel
set_option maxRecDepth 20000 in
theorem ggX18_lay_X18_isStuff : GoodIn wsX18_lay wsX18_isStuff := goodIn_r _ [10, 11, 12, 13, 14, 15, 16, 17, 18, 19, 9, 20, 407, 408, 409, 410, 411, 412, 413, 414, 415, 416, 417, 418, 419, 420, 421, 422, 423, 426, 427, 428] (by decide +kernel) (by decide +kernel)
set_option maxRecDepth 20000 in
theorem gX18_lay_X18_isStuff : GoodIn wsX18_lay (wsV RX18 100 RX18 yX18_isStuff wsX18_isStuff) := goodIn_app (goodIn_of _ (by decide +kernel)) ggX18_lay_X18_isStuff
set_option maxRecDepth 20000 in
theorem ggX18_lay_X18_fails : GoodIn wsX18_lay wsX18_fails := goodIn_r _ [24, 1, 407, 408, 409, 410, 411, 412, 413, 414, 415, 416, 417, 418, 419, 420, 421, 422, 423] (by decide +kernel) (by decide +kernel)
set_option maxRecDepth 20000 in
theorem gX18_lay_X18_fails : GoodIn wsX18_lay (wsV RX18 88 RX18 yX18_fails wsX18_fails) := goodIn_app (goodIn_of _ (by decide +kernel)) ggX18_lay_X18_fails
set_option maxRecDepth 20000 in
theorem ggX18_lay_X18_in : GoodIn wsX18_lay wsX18_in := goodIn_r _ [20] (by decide +kernel) (by decide +kernel)
set_option maxRecDepth 20000 in
theorem gX18_lay_X18_in : GoodIn wsX18_lay (va_wsS RX18 70 yX18_in wsX18_in) := goodIn_app (goodIn_of _ (by decide +kernel)) ggX18_lay_X18_in
set_option maxRecDepth 20000 in
theorem ggX18_lay_X18_isPlace : GoodIn wsX18_lay wsX18_isPlace := goodIn_r _ [27, 18, 19, 9, 20] (by decide +kernel) (by decide +kernel)
set_option maxRecDepth 20000 in
theorem gX18_lay_X18_isPlace : GoodIn wsX18_lay (va_wsS RX18 124 yX18_isPlace wsX18_isPlace) := goodIn_app (goodIn_of _ (by decide +kernel)) ggX18_lay_X18_isPlace
set_option maxRecDepth 20000 in
theorem ggX18_lay_X12_init : GoodIn wsX18_lay wsX12_init := goodIn_r _ [30, 31, 32, 33, 34, 35, 424, 425] (by decide +kernel) (by decide +kernel)
set_option maxRecDepth 20000 in
theorem gX18_lay_X12_init : GoodIn wsX18_lay (wsX12_init) := ggX18_lay_X12_init
set_option maxRecDepth 20000 in
theorem ggX18_lay_X18_keeps : GoodIn wsX18_lay wsX18_keeps := goodIn_ca (goodIn_r _ [39, 40, 41, 42, 43, 44, 45, 46, 47, 48, 49, 50, 51, 52, 53, 54, 55, 56, 57, 58, 59, 60, 61, 62, 63, 64, 32, 33, 65, 66, 67, 15, 68, 69, 70, 71, 72, 73, 74, 75, 76, 77, 78, 79, 80, 81, 82, 83, 84, 85, 86, 87, 88, 89, 90, 91, 92, 93, 94, 95, 96, 97, 98, 17, 99, 100, 101, 102, 103, 104, 105, 106, 107, 108, 109, 110, 111, 112, 113, 114, 115, 116, 117, 118, 119, 120, 121, 122, 123, 124, 125, 126, 127, 128, 129, 130, 131, 132, 133, 134, 135, 136, 137, 138, 139, 140, 141, 142, 143, 144, 145, 146, 147, 148, 149, 150, 151, 152, 153, 154, 155, 156, 157, 158, 159, 160, 161, 162, 163, 164, 165, 166, 167, 168, 169, 170, 171, 172, 173, 174, 175, 176, 177, 178, 179, 180, 181, 182, 183, 184, 185, 186, 187, 188, 189, 190, 191, 192, 193, 194, 195, 196, 197, 198, 199, 200, 201, 202, 203, 204, 205, 206, 207, 208, 209, 210, 211, 212, 213, 214, 215, 216, 13, 14, 16, 217, 218, 219, 220, 221, 222, 223, 224, 225, 226, 227, 228, 229, 230, 231, 232, 233, 234, 235, 236, 237, 238, 239, 240, 241, 242, 243, 244, 245, 246, 247, 248, 249, 250, 251, 252, 253, 254, 255, 256, 257, 258, 259, 260, 261, 262, 263, 264, 265, 266, 267, 268, 269, 270, 271, 272, 273, 274, 275, 276, 277, 278, 279, 280, 281, 282, 283, 284, 285, 286, 287, 288, 289, 290, 291, 292, 293, 294, 295, 296, 297, 298, 299, 300, 301, 302, 303, 304, 305, 306, 307, 308, 309, 310, 311, 312, 313, 314, 315, 316, 317, 318, 319, 320, 321, 322, 323, 324, 325, 326, 327, 328, 329, 330, 331, 332, 333, 334, 335, 336, 337, 338, 339, 340, 341, 342, 343, 344, 345, 346, 347, 348, 349, 350, 351, 352, 353, 354, 355, 356, 357, 358, 359, 360, 361, 362, 363, 364, 365, 366, 367, 368, 369, 370, 371, 372, 373, 374, 375, 376, 377, 378, 19, 9, 20, 379, 380, 381, 382, 383, 384, 385, 386, 387, 388, 389, 390, 391, 392, 393, 394, 395, 396, 397, 398, 399, 400, 401, 402, 403, 404, 405, 21, 22, 23, 24, 1, 12, 406, 407, 408, 409, 410, 411, 412, 413, 414, 415, 416, 417, 418, 419, 420, 421, 422, 423, 429, 430, 431, 432, 433, 434, 435, 436, 437, 438, 439, 440, 441, 442, 426, 427, 428, 443, 444, 445, 446, 424, 425, 447, 448, 449, 450, 451, 452, 453, 454, 455, 456, 457, 458, 459, 460, 461, 462] (by decide +kernel) (by decide +kernel)) (goodIn_sub (fun _ h => List.mem_cons_of_mem _ (List.mem_append_right _ h)) (by decide +kernel))
set_option maxRecDepth 20000 in
theorem gX18_lay_X18_keeps : GoodIn wsX18_lay (wsV RX18 133 RX18 yX18_keeps wsX18_keeps) := goodIn_app (goodIn_of _ (by decide +kernel)) ggX18_lay_X18_keeps
theorem dX18_lay_0 : decode cX18_lay 0 = .ok (.aload_n 0, 1) := by decide +kernel
theorem dX18_lay_1 : decode cX18_lay 1 = .ok (.iconst 0, 1) := by decide +kernel
theorem dX18_lay_2 : decode cX18_lay 2 = .ok (.putfield 67, 3) := by decide +kernel
theorem dX18_lay_5 : decode cX18_lay 5 = .ok (.aload_n 0, 1) := by decide +kernel
theorem dX18_lay_6 : decode cX18_lay 6 = .ok (.iload_n 1, 1) := by decide +kernel
theorem dX18_lay_7 : decode cX18_lay 7 = .ok (.invokevirtual 100, 3) := by decide +kernel
theorem dX18_lay_10 : decode cX18_lay 10 = .ok (.ifCond .ne 9, 3) := by decide +kernel
theorem dX18_lay_13 : decode cX18_lay 13 = .ok (.aload_n 0, 1) := by decide +kernel
theorem dX18_lay_14 : decode cX18_lay 14 = .ok (.iconst 1, 1) := by decide +kernel
theorem dX18_lay_15 : decode cX18_lay 15 = .ok (.invokevirtual 88, 3) := by decide +kernel
theorem dX18_lay_18 : decode cX18_lay 18 = .ok (.ireturn, 1) := by decide +kernel
theorem dX18_lay_19 : decode cX18_lay 19 = .ok (.iload_n 2, 1) := by decide +kernel
theorem dX18_lay_20 : decode cX18_lay 20 = .ok (.iconst 1, 1) := by decide +kernel
theorem dX18_lay_21 : decode cX18_lay 21 = .ok (.sipush 200, 3) := by decide +kernel
theorem dX18_lay_24 : decode cX18_lay 24 = .ok (.invokestatic 70, 3) := by decide +kernel
theorem dX18_lay_27 : decode cX18_lay 27 = .ok (.ifCond .eq 35, 3) := by decide +kernel
theorem dX18_lay_30 : decode cX18_lay 30 = .ok (.iload_n 3, 1) := by decide +kernel
theorem dX18_lay_31 : decode cX18_lay 31 = .ok (.iload 4, 2) := by decide +kernel
theorem dX18_lay_33 : decode cX18_lay 33 = .ok (.invokestatic 124, 3) := by decide +kernel
theorem dX18_lay_36 : decode cX18_lay 36 = .ok (.ifCond .eq 26, 3) := by decide +kernel
theorem dX18_lay_39 : decode cX18_lay 39 = .ok (.iload 5, 2) := by decide +kernel
theorem dX18_lay_41 : decode cX18_lay 41 = .ok (.iload 6, 2) := by decide +kernel
theorem dX18_lay_43 : decode cX18_lay 43 = .ok (.invokestatic 124, 3) := by decide +kernel
theorem dX18_lay_46 : decode cX18_lay 46 = .ok (.ifCond .eq 16, 3) := by decide +kernel
theorem dX18_lay_49 : decode cX18_lay 49 = .ok (.iload_n 3, 1) := by decide +kernel
theorem dX18_lay_50 : decode cX18_lay 50 = .ok (.iload 5, 2) := by decide +kernel
theorem dX18_lay_52 : decode cX18_lay 52 = .ok (.if_icmp .gt 10, 3) := by decide +kernel
theorem dX18_lay_55 : decode cX18_lay 55 = .ok (.iload 4, 2) := by decide +kernel
theorem dX18_lay_57 : decode cX18_lay 57 = .ok (.iload 6, 2) := by decide +kernel
theorem dX18_lay_59 : decode cX18_lay 59 = .ok (.if_icmp .le 9, 3) := by decide +kernel
theorem dX18_lay_62 : decode cX18_lay 62 = .ok (.aload_n 0, 1) := by decide +kernel
theorem dX18_lay_63 : decode cX18_lay 63 = .ok (.iconst 2, 1) := by decide +kernel
theorem dX18_lay_64 : decode cX18_lay 64 = .ok (.invokevirtual 88, 3) := by decide +kernel
theorem dX18_lay_67 : decode cX18_lay 67 = .ok (.ireturn, 1) := by decide +kernel
theorem dX18_lay_68 : decode cX18_lay 68 = .ok (.aload_n 0, 1) := by decide +kernel
theorem dX18_lay_69 : decode cX18_lay 69 = .ok (.new 128, 3) := by decide +kernel
theorem dX18_lay_72 : decode cX18_lay 72 = .ok (.dup, 1) := by decide +kernel
theorem dX18_lay_73 : decode cX18_lay 73 = .ok (.bipush 108, 2) := by decide +kernel
theorem dX18_lay_75 : decode cX18_lay 75 = .ok (.bipush 6, 2) := by decide +kernel
theorem dX18_lay_77 : decode cX18_lay 77 = .ok (.newarray .int, 2) := by decide +kernel
theorem dX18_lay_79 : decode cX18_lay 79 = .ok (.dup, 1) := by decide +kernel
theorem dX18_lay_80 : decode cX18_lay 80 = .ok (.iconst 0, 1) := by decide +kernel
theorem dX18_lay_81 : decode cX18_lay 81 = .ok (.iload_n 1, 1) := by decide +kernel
theorem dX18_lay_82 : decode cX18_lay 82 = .ok (.iastore, 1) := by decide +kernel
theorem dX18_lay_83 : decode cX18_lay 83 = .ok (.dup, 1) := by decide +kernel
theorem dX18_lay_84 : decode cX18_lay 84 = .ok (.iconst 1, 1) := by decide +kernel
theorem dX18_lay_85 : decode cX18_lay 85 = .ok (.iload_n 2, 1) := by decide +kernel
theorem dX18_lay_86 : decode cX18_lay 86 = .ok (.iastore, 1) := by decide +kernel
theorem dX18_lay_87 : decode cX18_lay 87 = .ok (.dup, 1) := by decide +kernel
theorem dX18_lay_88 : decode cX18_lay 88 = .ok (.iconst 2, 1) := by decide +kernel
theorem dX18_lay_89 : decode cX18_lay 89 = .ok (.iload_n 3, 1) := by decide +kernel
theorem dX18_lay_90 : decode cX18_lay 90 = .ok (.iastore, 1) := by decide +kernel
theorem dX18_lay_91 : decode cX18_lay 91 = .ok (.dup, 1) := by decide +kernel
theorem dX18_lay_92 : decode cX18_lay 92 = .ok (.iconst 3, 1) := by decide +kernel
theorem dX18_lay_93 : decode cX18_lay 93 = .ok (.iload 4, 2) := by decide +kernel
theorem dX18_lay_95 : decode cX18_lay 95 = .ok (.iastore, 1) := by decide +kernel
theorem dX18_lay_96 : decode cX18_lay 96 = .ok (.dup, 1) := by decide +kernel
theorem dX18_lay_97 : decode cX18_lay 97 = .ok (.iconst 4, 1) := by decide +kernel
theorem dX18_lay_98 : decode cX18_lay 98 = .ok (.iload 5, 2) := by decide +kernel
theorem dX18_lay_100 : decode cX18_lay 100 = .ok (.iastore, 1) := by decide +kernel
theorem dX18_lay_101 : decode cX18_lay 101 = .ok (.dup, 1) := by decide +kernel
theorem dX18_lay_102 : decode cX18_lay 102 = .ok (.iconst 5, 1) := by decide +kernel
theorem dX18_lay_103 : decode cX18_lay 103 = .ok (.iload 6, 2) := by decide +kernel
theorem dX18_lay_105 : decode cX18_lay 105 = .ok (.iastore, 1) := by decide +kernel
theorem dX18_lay_106 : decode cX18_lay 106 = .ok (.invokespecial 130, 3) := by decide +kernel
theorem dX18_lay_109 : decode cX18_lay 109 = .ok (.iconst 3, 1) := by decide +kernel
theorem dX18_lay_110 : decode cX18_lay 110 = .ok (.invokevirtual 133, 3) := by decide +kernel
theorem dX18_lay_113 : decode cX18_lay 113 = .ok (.ireturn, 1) := by decide +kernel
set_option maxRecDepth 20000 in
theorem ggX18_layers_X18_isPlace : GoodIn wsX18_layers wsX18_isPlace := goodIn_r _ [6, 7, 8, 5, 9] (by decide +kernel) (by decide +kernel)
set_option maxRecDepth 20000 in
theorem gX18_layers_X18_isPlace : GoodIn wsX18_layers (va_wsS RX18 124 yX18_isPlace wsX18_isPlace) := goodIn_app (goodIn_of _ (by decide +kernel)) ggX18_layers_X18_isPlace
set_option maxRecDepth 20000 in
theorem ggX18_layers_Jx4a65c_size_8abf5 : GoodIn wsX18_layers wsJx4a65c_size_8abf5 := goodIn_r _ [14, 15, 46, 47, 48] (by decide +kernel) (by decide +kernel)
set_option maxRecDepth 20000 in
theorem gX18_layers_Jx4a65c_size_8abf5_f74Jx4a65c : GoodIn wsX18_layers (va_wsF RX18 74 RJx4a65c ⟨"java/util/List", "size", "()I"⟩ yJx4a65c_size_8abf5 wsJx4a65c_size_8abf5) := goodIn_app (goodIn_of _ (by decide +kernel)) ggX18_layers_Jx4a65c_size_8abf5
set_option maxRecDepth 20000 in
theorem ggX18_layers_X18_fails : GoodIn wsX18_layers wsX18_fails := goodIn_r _ [19, 1, 20, 21, 22, 23, 24, 25, 26, 27, 28, 29, 30, 31, 32, 33, 34, 35, 36] (by decide +kernel) (by decide +kernel)
set_option maxRecDepth 20000 in
theorem gX18_layers_X18_fails : GoodIn wsX18_layers (wsV RX18 88 RX18 yX18_fails wsX18_fails) := goodIn_app (goodIn_of _ (by decide +kernel)) ggX18_layers_X18_fails
theorem dX18_layers_0 : decode cX18_layers 0 = .ok (.aload_n 0, 1) := by decide +kernel
theorem dX18_layers_1 : decode cX18_layers 1 = .ok (.iconst 0, 1) := by decide +kernel
theorem dX18_layers_2 : decode cX18_layers 2 = .ok (.putfield 67, 3) := by decide +kernel
theorem dX18_layers_5 : decode cX18_layers 5 = .ok (.iload_n 1, 1) := by decide +kernel
theorem dX18_layers_6 : decode cX18_layers 6 = .ok (.iload_n 2, 1) := by decide +kernel
theorem dX18_layers_7 : decode cX18_layers 7 = .ok (.invokestatic 124, 3) := by decide +kernel
theorem dX18_layers_10 : decode cX18_layers 10 = .ok (.ifCond .eq 28, 3) := by decide +kernel
theorem dX18_layers_13 : decode cX18_layers 13 = .ok (.aload_n 0, 1) := by decide +kernel
theorem dX18_layers_14 : decode cX18_layers 14 = .ok (.getfield 25, 3) := by decide +kernel
theorem dX18_layers_17 : decode cX18_layers 17 = .ok (.getfield 137, 3) := by decide +kernel
theorem dX18_layers_20 : decode cX18_layers 20 = .ok (.bipush 8, 2) := by decide +kernel
theorem dX18_layers_22 : decode cX18_layers 22 = .ok (.iload_n 2, 1) := by decide +kernel
theorem dX18_layers_23 : decode cX18_layers 23 = .ok (.imul, 1) := by decide +kernel
theorem dX18_layers_24 : decode cX18_layers 24 = .ok (.iload_n 1, 1) := by decide +kernel
theorem dX18_layers_25 : decode cX18_layers 25 = .ok (.iadd, 1) := by decide +kernel
theorem dX18_layers_26 : decode cX18_layers 26 = .ok (.aaload, 1) := by decide +kernel
theorem dX18_layers_27 : decode cX18_layers 27 = .ok (.getfield 141, 3) := by decide +kernel
theorem dX18_layers_30 : decode cX18_layers 30 = .ok (.invokeinterface 74 1, 5) := by decide +kernel
theorem dX18_layers_35 : decode cX18_layers 35 = .ok (.goto 8, 3) := by decide +kernel
theorem dX18_layers_38 : decode cX18_layers 38 = .ok (.aload_n 0, 1) := by decide +kernel
theorem dX18_layers_39 : decode cX18_layers 39 = .ok (.iconst 1, 1) := by decide +kernel
theorem dX18_layers_40 : decode cX18_layers 40 = .ok (.invokevirtual 88, 3) := by decide +kernel
theorem dX18_layers_43 : decode cX18_layers 43 = .ok (.ireturn, 1) := by decide +kernel
set_option maxRecDepth 20000 in
theorem ggX18_layerAt_X18_isPlace : GoodIn wsX18_layerAt wsX18_isPlace := goodIn_r _ [7, 8, 9, 6, 10] (by decide +kernel) (by decide +kernel)
set_option maxRecDepth 20000 in
theorem gX18_layerAt_X18_isPlace : GoodIn wsX18_layerAt (va_wsS RX18 124 yX18_isPlace wsX18_isPlace) := goodIn_app (goodIn_of _ (by decide +kernel)) ggX18_layerAt_X18_isPlace
set_option maxRecDepth 20000 in
theorem ggX18_layerAt_J0_indexOf_0f7a4 : GoodIn wsX18_layerAt wsJ0_indexOf_0f7a4 := goodIn_r _ [15, 16, 17, 18, 14, 19, 20, 21, 22, 23, 24, 25, 26, 27, 28, 29, 30, 31, 32, 33, 34, 35, 36, 37, 38, 39, 40, 41, 42, 43, 44, 45, 46, 47, 48, 49, 50, 51, 52, 53, 54, 55, 56, 57, 58, 59, 60, 61, 62, 63, 64, 65, 66, 67, 68, 69, 70, 71, 72, 73, 74, 75, 76, 77, 78, 79, 80, 81, 82, 83, 84, 85, 86, 87, 88, 89, 90, 91, 92, 93, 94, 95, 96, 97, 98, 99, 167, 168, 169, 170] (by decide +kernel) (by decide +kernel)
set_option maxRecDepth 20000 in
theorem gX18_layerAt_J0_indexOf_0f7a4 : GoodIn wsX18_layerAt (wsV RX18 82 RJ0 yJ0_indexOf_0f7a4 wsJ0_indexOf_0f7a4) := goodIn_app (goodIn_of _ (by decide +kernel)) ggX18_layerAt_J0_indexOf_0f7a4
set_option maxRecDepth 20000 in
theorem ggX18_layerAt_X18_fails : GoodIn wsX18_layerAt wsX18_fails := goodIn_r _ [103, 1, 126, 127, 128, 129, 130, 131, 132, 133, 134, 135, 136, 137, 138, 139, 140, 141, 142] (by decide +kernel) (by decide +kernel)
set_option maxRecDepth 20000 in
theorem gX18_layerAt_X18_fails : GoodIn wsX18_layerAt (wsV RX18 88 RX18 yX18_fails wsX18_fails) := goodIn_app (goodIn_of _ (by decide +kernel)) ggX18_layerAt_X18_fails
set_option maxRecDepth 20000 in
theorem ggX18_layerAt_Jx4a65c_size_8abf5 : GoodIn wsX18_layerAt wsJx4a65c_size_8abf5 := goodIn_r _ [108, 109, 171, 172, 173] (by decide +kernel) (by decide +kernel)
set_option maxRecDepth 20000 in
theorem gX18_layerAt_Jx4a65c_size_8abf5_f74Jx4a65c : GoodIn wsX18_layerAt (va_wsF RX18 74 RJx4a65c ⟨"java/util/List", "size", "()I"⟩ yJx4a65c_size_8abf5 wsJx4a65c_size_8abf5) := goodIn_app (goodIn_of _ (by decide +kernel)) ggX18_layerAt_Jx4a65c_size_8abf5
set_option maxRecDepth 20000 in
theorem ggX18_layerAt_X18_in : GoodIn wsX18_layerAt wsX18_in := goodIn_r _ [10] (by decide +kernel) (by decide +kernel)
set_option maxRecDepth 20000 in
theorem gX18_layerAt_X18_in : GoodIn wsX18_layerAt (va_wsS RX18 70 yX18_in wsX18_in) := goodIn_app (goodIn_of _ (by decide +kernel)) ggX18_layerAt_X18_in
set_option maxRecDepth 20000 in
theorem ggX18_layerAt_Jx4a65c_get_915e3 : GoodIn wsX18_layerAt wsJx4a65c_get_915e3 := goodIn_r _ [113, 109, 114, 115, 116, 117, 118, 119, 74, 120, 121, 122, 123, 107, 124, 125, 171, 172, 173] (by decide +kernel) (by decide +kernel)
set_option maxRecDepth 20000 in
theorem gX18_layerAt_Jx4a65c_get_915e3_f148Jx4a65c : GoodIn wsX18_layerAt (va_wsF RX18 148 RJx4a65c ⟨"java/util/List", "get", "(I)Ljava/lang/Object;"⟩ yJx4a65c_get_915e3 wsJx4a65c_get_915e3) := goodIn_app (goodIn_of _ (by decide +kernel)) ggX18_layerAt_Jx4a65c_get_915e3
theorem dX18_layerAt_0 : decode cX18_layerAt 0 = .ok (.aload_n 0, 1) := by decide +kernel
theorem dX18_layerAt_1 : decode cX18_layerAt 1 = .ok (.iconst 0, 1) := by decide +kernel
theorem dX18_layerAt_2 : decode cX18_layerAt 2 = .ok (.putfield 67, 3) := by decide +kernel
theorem dX18_layerAt_5 : decode cX18_layerAt 5 = .ok (.iload_n 1, 1) := by decide +kernel
theorem dX18_layerAt_6 : decode cX18_layerAt 6 = .ok (.iload_n 2, 1) := by decide +kernel
theorem dX18_layerAt_7 : decode cX18_layerAt 7 = .ok (.invokestatic 124, 3) := by decide +kernel
theorem dX18_layerAt_10 : decode cX18_layerAt 10 = .ok (.ifCond .eq 27, 3) := by decide +kernel
theorem dX18_layerAt_13 : decode cX18_layerAt 13 = .ok (.ldc 146, 2) := by decide +kernel
theorem dX18_layerAt_15 : decode cX18_layerAt 15 = .ok (.iload 4, 2) := by decide +kernel
theorem dX18_layerAt_17 : decode cX18_layerAt 17 = .ok (.invokevirtual 82, 3) := by decide +kernel
theorem dX18_layerAt_20 : decode cX18_layerAt 20 = .ok (.ifCond .ge 23, 3) := by decide +kernel
theorem dX18_layerAt_23 : decode cX18_layerAt 23 = .ok (.iload 4, 2) := by decide +kernel
theorem dX18_layerAt_25 : decode cX18_layerAt 25 = .ok (.bipush 99, 2) := by decide +kernel
theorem dX18_layerAt_27 : decode cX18_layerAt 27 = .ok (.if_icmp .eq 16, 3) := by decide +kernel
theorem dX18_layerAt_30 : decode cX18_layerAt 30 = .ok (.iload 4, 2) := by decide +kernel
theorem dX18_layerAt_32 : decode cX18_layerAt 32 = .ok (.bipush 103, 2) := by decide +kernel
theorem dX18_layerAt_34 : decode cX18_layerAt 34 = .ok (.if_icmp .eq 9, 3) := by decide +kernel
theorem dX18_layerAt_37 : decode cX18_layerAt 37 = .ok (.aload_n 0, 1) := by decide +kernel
theorem dX18_layerAt_38 : decode cX18_layerAt 38 = .ok (.iconst 1, 1) := by decide +kernel
theorem dX18_layerAt_39 : decode cX18_layerAt 39 = .ok (.invokevirtual 88, 3) := by decide +kernel
theorem dX18_layerAt_42 : decode cX18_layerAt 42 = .ok (.ireturn, 1) := by decide +kernel
theorem dX18_layerAt_43 : decode cX18_layerAt 43 = .ok (.aload_n 0, 1) := by decide +kernel
theorem dX18_layerAt_44 : decode cX18_layerAt 44 = .ok (.getfield 25, 3) := by decide +kernel
theorem dX18_layerAt_47 : decode cX18_layerAt 47 = .ok (.getfield 137, 3) := by decide +kernel
theorem dX18_layerAt_50 : decode cX18_layerAt 50 = .ok (.bipush 8, 2) := by decide +kernel
theorem dX18_layerAt_52 : decode cX18_layerAt 52 = .ok (.iload_n 2, 1) := by decide +kernel
theorem dX18_layerAt_53 : decode cX18_layerAt 53 = .ok (.imul, 1) := by decide +kernel
theorem dX18_layerAt_54 : decode cX18_layerAt 54 = .ok (.iload_n 1, 1) := by decide +kernel
theorem dX18_layerAt_55 : decode cX18_layerAt 55 = .ok (.iadd, 1) := by decide +kernel
theorem dX18_layerAt_56 : decode cX18_layerAt 56 = .ok (.aaload, 1) := by decide +kernel
theorem dX18_layerAt_57 : decode cX18_layerAt 57 = .ok (.getfield 141, 3) := by decide +kernel
theorem dX18_layerAt_60 : decode cX18_layerAt 60 = .ok (.astore 5, 2) := by decide +kernel
theorem dX18_layerAt_62 : decode cX18_layerAt 62 = .ok (.iload_n 3, 1) := by decide +kernel
theorem dX18_layerAt_63 : decode cX18_layerAt 63 = .ok (.iconst 0, 1) := by decide +kernel
theorem dX18_layerAt_64 : decode cX18_layerAt 64 = .ok (.aload 5, 2) := by decide +kernel
theorem dX18_layerAt_66 : decode cX18_layerAt 66 = .ok (.invokeinterface 74 1, 5) := by decide +kernel
theorem dX18_layerAt_71 : decode cX18_layerAt 71 = .ok (.iconst 1, 1) := by decide +kernel
theorem dX18_layerAt_72 : decode cX18_layerAt 72 = .ok (.isub, 1) := by decide +kernel
theorem dX18_layerAt_73 : decode cX18_layerAt 73 = .ok (.invokestatic 70, 3) := by decide +kernel
theorem dX18_layerAt_76 : decode cX18_layerAt 76 = .ok (.ifCond .ne 9, 3) := by decide +kernel
theorem dX18_layerAt_79 : decode cX18_layerAt 79 = .ok (.aload_n 0, 1) := by decide +kernel
theorem dX18_layerAt_80 : decode cX18_layerAt 80 = .ok (.iconst 2, 1) := by decide +kernel
theorem dX18_layerAt_81 : decode cX18_layerAt 81 = .ok (.invokevirtual 88, 3) := by decide +kernel
theorem dX18_layerAt_84 : decode cX18_layerAt 84 = .ok (.ireturn, 1) := by decide +kernel
theorem dX18_layerAt_85 : decode cX18_layerAt 85 = .ok (.aload 5, 2) := by decide +kernel
theorem dX18_layerAt_87 : decode cX18_layerAt 87 = .ok (.iload_n 3, 1) := by decide +kernel
theorem dX18_layerAt_88 : decode cX18_layerAt 88 = .ok (.invokeinterface 148 2, 5) := by decide +kernel
theorem dX18_layerAt_93 : decode cX18_layerAt 93 = .ok (.checkcast 152, 3) := by decide +kernel
theorem dX18_layerAt_96 : decode cX18_layerAt 96 = .ok (.astore 6, 2) := by decide +kernel
theorem dX18_layerAt_98 : decode cX18_layerAt 98 = .ok (.iload 4, 2) := by decide +kernel
theorem dX18_layerAt_100 : decode cX18_layerAt 100 = .ok (.bipush 115, 2) := by decide +kernel
theorem dX18_layerAt_102 : decode cX18_layerAt 102 = .ok (.if_icmp .ne 14, 3) := by decide +kernel
theorem dX18_layerAt_105 : decode cX18_layerAt 105 = .ok (.aload 6, 2) := by decide +kernel
theorem dX18_layerAt_107 : decode cX18_layerAt 107 = .ok (.getfield 154, 3) := by decide +kernel
theorem dX18_layerAt_110 : decode cX18_layerAt 110 = .ok (.getfield 158, 3) := by decide +kernel
theorem dX18_layerAt_113 : decode cX18_layerAt 113 = .ok (.goto 53, 3) := by decide +kernel
theorem dX18_layerAt_116 : decode cX18_layerAt 116 = .ok (.iload 4, 2) := by decide +kernel
theorem dX18_layerAt_118 : decode cX18_layerAt 118 = .ok (.bipush 116, 2) := by decide +kernel
theorem dX18_layerAt_120 : decode cX18_layerAt 120 = .ok (.if_icmp .ne 11, 3) := by decide +kernel
theorem dX18_layerAt_123 : decode cX18_layerAt 123 = .ok (.aload 6, 2) := by decide +kernel
theorem dX18_layerAt_125 : decode cX18_layerAt 125 = .ok (.getfield 161, 3) := by decide +kernel
theorem dX18_layerAt_128 : decode cX18_layerAt 128 = .ok (.goto 38, 3) := by decide +kernel
theorem dX18_layerAt_131 : decode cX18_layerAt 131 = .ok (.iload 4, 2) := by decide +kernel
theorem dX18_layerAt_133 : decode cX18_layerAt 133 = .ok (.bipush 121, 2) := by decide +kernel
theorem dX18_layerAt_135 : decode cX18_layerAt 135 = .ok (.if_icmp .ne 11, 3) := by decide +kernel
theorem dX18_layerAt_138 : decode cX18_layerAt 138 = .ok (.aload 6, 2) := by decide +kernel
theorem dX18_layerAt_140 : decode cX18_layerAt 140 = .ok (.getfield 164, 3) := by decide +kernel
theorem dX18_layerAt_143 : decode cX18_layerAt 143 = .ok (.goto 23, 3) := by decide +kernel
theorem dX18_layerAt_146 : decode cX18_layerAt 146 = .ok (.iload 4, 2) := by decide +kernel
theorem dX18_layerAt_148 : decode cX18_layerAt 148 = .ok (.bipush 99, 2) := by decide +kernel
theorem dX18_layerAt_150 : decode cX18_layerAt 150 = .ok (.if_icmp .ne 11, 3) := by decide +kernel
theorem dX18_layerAt_153 : decode cX18_layerAt 153 = .ok (.aload 6, 2) := by decide +kernel
theorem dX18_layerAt_155 : decode cX18_layerAt 155 = .ok (.getfield 167, 3) := by decide +kernel
theorem dX18_layerAt_158 : decode cX18_layerAt 158 = .ok (.goto 8, 3) := by decide +kernel
theorem dX18_layerAt_161 : decode cX18_layerAt 161 = .ok (.aload 6, 2) := by decide +kernel
theorem dX18_layerAt_163 : decode cX18_layerAt 163 = .ok (.getfield 170, 3) := by decide +kernel
theorem dX18_layerAt_166 : decode cX18_layerAt 166 = .ok (.ireturn, 1) := by decide +kernel
set_option maxRecDepth 20000 in
theorem ggX18_tired_X18_isPlace : GoodIn wsX18_tired wsX18_isPlace := goodIn_r _ [6, 7, 8, 5, 9] (by decide +kernel) (by decide +kernel)
set_option maxRecDepth 20000 in
theorem gX18_tired_X18_isPlace : GoodIn wsX18_tired (va_wsS RX18 124 yX18_isPlace wsX18_isPlace) := goodIn_app (goodIn_of _ (by decide +kernel)) ggX18_tired_X18_isPlace
set_option maxRecDepth 20000 in
theorem ggX18_tired_X18_fails : GoodIn wsX18_tired wsX18_fails := goodIn_r _ [13, 1, 14, 15, 16, 17, 18, 19, 20, 21, 22, 23, 24, 25, 26, 27, 28, 29, 30] (by decide +kernel) (by decide +kernel)
set_option maxRecDepth 20000 in
theorem gX18_tired_X18_fails : GoodIn wsX18_tired (wsV RX18 88 RX18 yX18_fails wsX18_fails) := goodIn_app (goodIn_of _ (by decide +kernel)) ggX18_tired_X18_fails
theorem dX18_tired_0 : decode cX18_tired 0 = .ok (.aload_n 0, 1) := by decide +kernel
theorem dX18_tired_1 : decode cX18_tired 1 = .ok (.iconst 0, 1) := by decide +kernel
theorem dX18_tired_2 : decode cX18_tired 2 = .ok (.putfield 67, 3) := by decide +kernel
theorem dX18_tired_5 : decode cX18_tired 5 = .ok (.iload_n 1, 1) := by decide +kernel
theorem dX18_tired_6 : decode cX18_tired 6 = .ok (.iload_n 2, 1) := by decide +kernel
theorem dX18_tired_7 : decode cX18_tired 7 = .ok (.invokestatic 124, 3) := by decide +kernel
theorem dX18_tired_10 : decode cX18_tired 10 = .ok (.ifCond .eq 23, 3) := by decide +kernel
theorem dX18_tired_13 : decode cX18_tired 13 = .ok (.aload_n 0, 1) := by decide +kernel
theorem dX18_tired_14 : decode cX18_tired 14 = .ok (.getfield 25, 3) := by decide +kernel
theorem dX18_tired_17 : decode cX18_tired 17 = .ok (.getfield 137, 3) := by decide +kernel
theorem dX18_tired_20 : decode cX18_tired 20 = .ok (.bipush 8, 2) := by decide +kernel
theorem dX18_tired_22 : decode cX18_tired 22 = .ok (.iload_n 2, 1) := by decide +kernel
theorem dX18_tired_23 : decode cX18_tired 23 = .ok (.imul, 1) := by decide +kernel
theorem dX18_tired_24 : decode cX18_tired 24 = .ok (.iload_n 1, 1) := by decide +kernel
theorem dX18_tired_25 : decode cX18_tired 25 = .ok (.iadd, 1) := by decide +kernel
theorem dX18_tired_26 : decode cX18_tired 26 = .ok (.aaload, 1) := by decide +kernel
theorem dX18_tired_27 : decode cX18_tired 27 = .ok (.getfield 173, 3) := by decide +kernel
theorem dX18_tired_30 : decode cX18_tired 30 = .ok (.goto 8, 3) := by decide +kernel
theorem dX18_tired_33 : decode cX18_tired 33 = .ok (.aload_n 0, 1) := by decide +kernel
theorem dX18_tired_34 : decode cX18_tired 34 = .ok (.iconst 1, 1) := by decide +kernel
theorem dX18_tired_35 : decode cX18_tired 35 = .ok (.invokevirtual 88, 3) := by decide +kernel
theorem dX18_tired_38 : decode cX18_tired 38 = .ok (.ireturn, 1) := by decide +kernel
set_option maxRecDepth 20000 in
theorem ggX18_light_X18_in : GoodIn wsX18_light wsX18_in := goodIn_r _ [6] (by decide +kernel) (by decide +kernel)
set_option maxRecDepth 20000 in
theorem gX18_light_X18_in : GoodIn wsX18_light (va_wsS RX18 70 yX18_in wsX18_in) := goodIn_app (goodIn_of _ (by decide +kernel)) ggX18_light_X18_in
set_option maxRecDepth 20000 in
theorem ggX18_light_X18_fails : GoodIn wsX18_light wsX18_fails := goodIn_r _ [10, 1, 11, 12, 13, 14, 15, 16, 17, 18, 19, 20, 21, 22, 23, 24, 25, 26, 27] (by decide +kernel) (by decide +kernel)
set_option maxRecDepth 20000 in
theorem gX18_light_X18_fails : GoodIn wsX18_light (wsV RX18 88 RX18 yX18_fails wsX18_fails) := goodIn_app (goodIn_of _ (by decide +kernel)) ggX18_light_X18_fails
theorem dX18_light_0 : decode cX18_light 0 = .ok (.aload_n 0, 1) := by decide +kernel
theorem dX18_light_1 : decode cX18_light 1 = .ok (.iconst 0, 1) := by decide +kernel
theorem dX18_light_2 : decode cX18_light 2 = .ok (.putfield 67, 3) := by decide +kernel
theorem dX18_light_5 : decode cX18_light 5 = .ok (.iload_n 1, 1) := by decide +kernel
theorem dX18_light_6 : decode cX18_light 6 = .ok (.iconst 0, 1) := by decide +kernel
theorem dX18_light_7 : decode cX18_light 7 = .ok (.bipush 9, 2) := by decide +kernel
theorem dX18_light_9 : decode cX18_light 9 = .ok (.invokestatic 70, 3) := by decide +kernel
theorem dX18_light_12 : decode cX18_light 12 = .ok (.ifCond .ne 9, 3) := by decide +kernel
theorem dX18_light_15 : decode cX18_light 15 = .ok (.aload_n 0, 1) := by decide +kernel
theorem dX18_light_16 : decode cX18_light 16 = .ok (.iconst 1, 1) := by decide +kernel
theorem dX18_light_17 : decode cX18_light 17 = .ok (.invokevirtual 88, 3) := by decide +kernel
theorem dX18_light_20 : decode cX18_light 20 = .ok (.ireturn, 1) := by decide +kernel
theorem dX18_light_21 : decode cX18_light 21 = .ok (.aload_n 0, 1) := by decide +kernel
theorem dX18_light_22 : decode cX18_light 22 = .ok (.getfield 32, 3) := by decide +kernel
theorem dX18_light_25 : decode cX18_light 25 = .ok (.istore_n 2, 1) := by decide +kernel
theorem dX18_light_26 : decode cX18_light 26 = .ok (.aload_n 0, 1) := by decide +kernel
theorem dX18_light_27 : decode cX18_light 27 = .ok (.iload_n 1, 1) := by decide +kernel
theorem dX18_light_28 : decode cX18_light 28 = .ok (.putfield 32, 3) := by decide +kernel
theorem dX18_light_31 : decode cX18_light 31 = .ok (.iload_n 2, 1) := by decide +kernel
theorem dX18_light_32 : decode cX18_light 32 = .ok (.ireturn, 1) := by decide +kernel
set_option maxRecDepth 20000 in
theorem ggX18_damp_X18_in : GoodIn wsX18_damp wsX18_in := goodIn_r _ [6] (by decide +kernel) (by decide +kernel)
set_option maxRecDepth 20000 in
theorem gX18_damp_X18_in : GoodIn wsX18_damp (va_wsS RX18 70 yX18_in wsX18_in) := goodIn_app (goodIn_of _ (by decide +kernel)) ggX18_damp_X18_in
set_option maxRecDepth 20000 in
theorem ggX18_damp_X18_fails : GoodIn wsX18_damp wsX18_fails := goodIn_r _ [10, 1, 11, 12, 13, 14, 15, 16, 17, 18, 19, 20, 21, 22, 23, 24, 25, 26, 27] (by decide +kernel) (by decide +kernel)
set_option maxRecDepth 20000 in
theorem gX18_damp_X18_fails : GoodIn wsX18_damp (wsV RX18 88 RX18 yX18_fails wsX18_fails) := goodIn_app (goodIn_of _ (by decide +kernel)) ggX18_damp_X18_fails
theorem dX18_damp_0 : decode cX18_damp 0 = .ok (.aload_n 0, 1) := by decide +kernel
theorem dX18_damp_1 : decode cX18_damp 1 = .ok (.iconst 0, 1) := by decide +kernel
theorem dX18_damp_2 : decode cX18_damp 2 = .ok (.putfield 67, 3) := by decide +kernel
theorem dX18_damp_5 : decode cX18_damp 5 = .ok (.iload_n 1, 1) := by decide +kernel
theorem dX18_damp_6 : decode cX18_damp 6 = .ok (.iconst 0, 1) := by decide +kernel
theorem dX18_damp_7 : decode cX18_damp 7 = .ok (.bipush 99, 2) := by decide +kernel
theorem dX18_damp_9 : decode cX18_damp 9 = .ok (.invokestatic 70, 3) := by decide +kernel
theorem dX18_damp_12 : decode cX18_damp 12 = .ok (.ifCond .ne 9, 3) := by decide +kernel
theorem dX18_damp_15 : decode cX18_damp 15 = .ok (.aload_n 0, 1) := by decide +kernel
theorem dX18_damp_16 : decode cX18_damp 16 = .ok (.iconst 1, 1) := by decide +kernel
theorem dX18_damp_17 : decode cX18_damp 17 = .ok (.invokevirtual 88, 3) := by decide +kernel
theorem dX18_damp_20 : decode cX18_damp 20 = .ok (.ireturn, 1) := by decide +kernel
theorem dX18_damp_21 : decode cX18_damp 21 = .ok (.aload_n 0, 1) := by decide +kernel
theorem dX18_damp_22 : decode cX18_damp 22 = .ok (.getfield 36, 3) := by decide +kernel
theorem dX18_damp_25 : decode cX18_damp 25 = .ok (.istore_n 2, 1) := by decide +kernel
theorem dX18_damp_26 : decode cX18_damp 26 = .ok (.aload_n 0, 1) := by decide +kernel
theorem dX18_damp_27 : decode cX18_damp 27 = .ok (.iload_n 1, 1) := by decide +kernel
theorem dX18_damp_28 : decode cX18_damp 28 = .ok (.putfield 36, 3) := by decide +kernel
theorem dX18_damp_31 : decode cX18_damp 31 = .ok (.iload_n 2, 1) := by decide +kernel
theorem dX18_damp_32 : decode cX18_damp 32 = .ok (.ireturn, 1) := by decide +kernel
set_option maxRecDepth 20000 in
theorem ggX18_pass_X18_in : GoodIn wsX18_pass wsX18_in := goodIn_r _ [11] (by decide +kernel) (by decide +kernel)
set_option maxRecDepth 20000 in
theorem gX18_pass_X18_in : GoodIn wsX18_pass (va_wsS RX18 70 yX18_in wsX18_in) := goodIn_app (goodIn_of _ (by decide +kernel)) ggX18_pass_X18_in
set_option maxRecDepth 20000 in
theorem ggX18_pass_X12_init : GoodIn wsX18_pass wsX12_init := goodIn_r _ [14, 15, 16, 17, 18, 19, 418, 419] (by decide +kernel) (by decide +kernel)
set_option maxRecDepth 20000 in
theorem gX18_pass_X12_init : GoodIn wsX18_pass (wsX12_init) := ggX18_pass_X12_init
set_option maxRecDepth 20000 in
theorem ggX18_pass_X18_keeps : GoodIn wsX18_pass wsX18_keeps := goodIn_ca (goodIn_r _ [23, 24, 25, 26, 27, 28, 29, 30, 31, 32, 33, 34, 35, 36, 37, 38, 39, 40, 41, 42, 43, 44, 45, 46, 47, 48, 16, 17, 49, 50, 51, 52, 53, 54, 55, 56, 57, 58, 59, 60, 61, 62, 63, 64, 65, 66, 67, 68, 69, 70, 71, 72, 73, 74, 75, 76, 77, 78, 79, 80, 81, 82, 83, 84, 85, 86, 87, 88, 89, 90, 91, 92, 93, 94, 95, 96, 97, 98, 99, 100, 101, 102, 103, 104, 105, 106, 107, 108, 109, 110, 111, 112, 113, 114, 115, 116, 117, 118, 119, 120, 121, 122, 123, 124, 125, 126, 127, 128, 129, 130, 131, 132, 133, 134, 135, 136, 137, 138, 139, 140, 141, 142, 143, 144, 145, 146, 147, 148, 149, 150, 151, 152, 153, 154, 155, 156, 157, 158, 159, 160, 161, 162, 163, 164, 165, 166, 167, 168, 169, 170, 171, 172, 173, 174, 175, 176, 177, 178, 179, 180, 181, 182, 183, 184, 185, 186, 187, 188, 189, 190, 191, 192, 193, 194, 195, 196, 197, 198, 199, 200, 201, 202, 203, 204, 205, 206, 207, 208, 209, 210, 211, 212, 213, 214, 215, 216, 217, 218, 219, 220, 221, 222, 223, 224, 225, 226, 227, 228, 229, 230, 231, 232, 233, 234, 235, 236, 237, 238, 239, 240, 241, 242, 243, 244, 245, 246, 247, 248, 249, 250, 251, 252, 253, 254, 255, 256, 257, 258, 259, 260, 261, 262, 263, 264, 265, 266, 267, 268, 269, 270, 271, 272, 273, 274, 275, 276, 277, 278, 279, 280, 281, 282, 283, 284, 285, 286, 287, 288, 289, 290, 291, 292, 293, 294, 295, 296, 297, 298, 299, 300, 301, 302, 303, 304, 305, 306, 307, 308, 309, 310, 311, 312, 313, 314, 315, 316, 317, 318, 319, 320, 321, 322, 323, 324, 325, 326, 327, 328, 329, 330, 331, 332, 333, 334, 335, 336, 337, 338, 339, 340, 341, 342, 343, 344, 345, 346, 347, 348, 349, 350, 351, 352, 353, 354, 355, 356, 357, 358, 359, 360, 361, 362, 363, 364, 365, 366, 367, 9, 10, 11, 368, 369, 370, 371, 372, 373, 374, 375, 376, 377, 378, 379, 380, 381, 382, 383, 384, 385, 386, 387, 388, 389, 390, 391, 392, 393, 394, 395, 396, 397, 398, 1, 399, 400, 401, 402, 403, 404, 405, 406, 407, 408, 409, 410, 411, 412, 413, 414, 415, 416, 417, 420, 421, 422, 423, 424, 425, 426, 427, 428, 429, 430, 431, 432, 433, 434, 435, 436, 437, 438, 439, 440, 418, 419, 441, 442, 443, 444, 445, 446, 447, 448, 449, 450, 451, 452, 453, 454, 455, 456] (by decide +kernel) (by decide +kernel)) (goodIn_sub (fun _ h => List.mem_cons_of_mem _ (List.mem_append_right _ h)) (by decide +kernel))
set_option maxRecDepth 20000 in
theorem gX18_pass_X18_keeps : GoodIn wsX18_pass (wsV RX18 133 RX18 yX18_keeps wsX18_keeps) := goodIn_app (goodIn_of _ (by decide +kernel)) ggX18_pass_X18_keeps
set_option maxRecDepth 20000 in
theorem ggX18_pass_X18_fails : GoodIn wsX18_pass wsX18_fails := goodIn_r _ [398, 1, 401, 402, 403, 404, 405, 406, 407, 408, 409, 410, 411, 412, 413, 414, 415, 416, 417] (by decide +kernel) (by decide +kernel)
set_option maxRecDepth 20000 in
theorem gX18_pass_X18_fails : GoodIn wsX18_pass (wsV RX18 88 RX18 yX18_fails wsX18_fails) := goodIn_app (goodIn_of _ (by decide +kernel)) ggX18_pass_X18_fails
theorem dX18_pass_0 : decode cX18_pass 0 = .ok (.aload_n 0, 1) := by decide +kernel
theorem dX18_pass_1 : decode cX18_pass 1 = .ok (.iconst 0, 1) := by decide +kernel
theorem dX18_pass_2 : decode cX18_pass 2 = .ok (.putfield 67, 3) := by decide +kernel
theorem dX18_pass_5 : decode cX18_pass 5 = .ok (.iload_n 1, 1) := by decide +kernel
theorem dX18_pass_6 : decode cX18_pass 6 = .ok (.iconst 1, 1) := by decide +kernel
theorem dX18_pass_7 : decode cX18_pass 7 = .ok (.bipush 50, 2) := by decide +kernel
theorem dX18_pass_9 : decode cX18_pass 9 = .ok (.invokestatic 70, 3) := by decide +kernel
theorem dX18_pass_12 : decode cX18_pass 12 = .ok (.ifCond .eq 41, 3) := by decide +kernel
theorem dX18_pass_15 : decode cX18_pass 15 = .ok (.aload_n 0, 1) := by decide +kernel
theorem dX18_pass_16 : decode cX18_pass 16 = .ok (.new 128, 3) := by decide +kernel
theorem dX18_pass_19 : decode cX18_pass 19 = .ok (.dup, 1) := by decide +kernel
theorem dX18_pass_20 : decode cX18_pass 20 = .ok (.bipush 121, 2) := by decide +kernel
theorem dX18_pass_22 : decode cX18_pass 22 = .ok (.iconst 3, 1) := by decide +kernel
theorem dX18_pass_23 : decode cX18_pass 23 = .ok (.newarray .int, 2) := by decide +kernel
theorem dX18_pass_25 : decode cX18_pass 25 = .ok (.dup, 1) := by decide +kernel
theorem dX18_pass_26 : decode cX18_pass 26 = .ok (.iconst 0, 1) := by decide +kernel
theorem dX18_pass_27 : decode cX18_pass 27 = .ok (.iload_n 1, 1) := by decide +kernel
theorem dX18_pass_28 : decode cX18_pass 28 = .ok (.iastore, 1) := by decide +kernel
theorem dX18_pass_29 : decode cX18_pass 29 = .ok (.dup, 1) := by decide +kernel
theorem dX18_pass_30 : decode cX18_pass 30 = .ok (.iconst 1, 1) := by decide +kernel
theorem dX18_pass_31 : decode cX18_pass 31 = .ok (.aload_n 0, 1) := by decide +kernel
theorem dX18_pass_32 : decode cX18_pass 32 = .ok (.getfield 32, 3) := by decide +kernel
theorem dX18_pass_35 : decode cX18_pass 35 = .ok (.iastore, 1) := by decide +kernel
theorem dX18_pass_36 : decode cX18_pass 36 = .ok (.dup, 1) := by decide +kernel
theorem dX18_pass_37 : decode cX18_pass 37 = .ok (.iconst 2, 1) := by decide +kernel
theorem dX18_pass_38 : decode cX18_pass 38 = .ok (.aload_n 0, 1) := by decide +kernel
theorem dX18_pass_39 : decode cX18_pass 39 = .ok (.getfield 36, 3) := by decide +kernel
theorem dX18_pass_42 : decode cX18_pass 42 = .ok (.iastore, 1) := by decide +kernel
theorem dX18_pass_43 : decode cX18_pass 43 = .ok (.invokespecial 130, 3) := by decide +kernel
theorem dX18_pass_46 : decode cX18_pass 46 = .ok (.iconst (-1), 1) := by decide +kernel
theorem dX18_pass_47 : decode cX18_pass 47 = .ok (.invokevirtual 133, 3) := by decide +kernel
theorem dX18_pass_50 : decode cX18_pass 50 = .ok (.goto 8, 3) := by decide +kernel
theorem dX18_pass_53 : decode cX18_pass 53 = .ok (.aload_n 0, 1) := by decide +kernel
theorem dX18_pass_54 : decode cX18_pass 54 = .ok (.iconst 1, 1) := by decide +kernel
theorem dX18_pass_55 : decode cX18_pass 55 = .ok (.invokevirtual 88, 3) := by decide +kernel
theorem dX18_pass_58 : decode cX18_pass 58 = .ok (.ireturn, 1) := by decide +kernel
theorem dX18_year_0 : decode cX18_year 0 = .ok (.aload_n 0, 1) := by decide +kernel
theorem dX18_year_1 : decode cX18_year 1 = .ok (.iconst 0, 1) := by decide +kernel
theorem dX18_year_2 : decode cX18_year 2 = .ok (.putfield 67, 3) := by decide +kernel
theorem dX18_year_5 : decode cX18_year 5 = .ok (.aload_n 0, 1) := by decide +kernel
theorem dX18_year_6 : decode cX18_year 6 = .ok (.getfield 25, 3) := by decide +kernel
theorem dX18_year_9 : decode cX18_year 9 = .ok (.getfield 176, 3) := by decide +kernel
theorem dX18_year_12 : decode cX18_year 12 = .ok (.ireturn, 1) := by decide +kernel
set_option maxRecDepth 20000 in
theorem ggX18_isRay_J0_indexOf_0f7a4 : GoodIn wsX18_isRay wsJ0_indexOf_0f7a4 := goodIn_r _ [5, 6, 7, 8, 4, 9, 10, 11, 12, 13, 14, 15, 16, 17, 18, 19, 20, 21, 22, 23, 24, 25, 26, 27, 28, 29, 30, 31, 32, 33, 34, 35, 36, 37, 38, 39, 40, 41, 42, 43, 44, 45, 46, 47, 48, 49, 50, 51, 52, 53, 54, 55, 56, 57, 58, 59, 60, 61, 62, 63, 64, 65, 66, 67, 68, 69, 70, 71, 72, 73, 74, 75, 76, 77, 78, 79, 80, 81, 82, 83, 84, 85, 86, 87, 88, 89, 90, 91, 92, 93] (by decide +kernel) (by decide +kernel)
set_option maxRecDepth 20000 in
theorem gX18_isRay_J0_indexOf_0f7a4 : GoodIn wsX18_isRay (wsV RX18 82 RJ0 yJ0_indexOf_0f7a4 wsJ0_indexOf_0f7a4) := goodIn_app (goodIn_of _ (by decide +kernel)) ggX18_isRay_J0_indexOf_0f7a4
theorem dX18_isRay_0 : decode cX18_isRay 0 = .ok (.ldc 177, 2) := by decide +kernel
theorem dX18_isRay_2 : decode cX18_isRay 2 = .ok (.iload_n 0, 1) := by decide +kernel
theorem dX18_isRay_3 : decode cX18_isRay 3 = .ok (.invokevirtual 82, 3) := by decide +kernel
theorem dX18_isRay_6 : decode cX18_isRay 6 = .ok (.ifCond .lt 7, 3) := by decide +kernel
theorem dX18_isRay_9 : decode cX18_isRay 9 = .ok (.iconst 1, 1) := by decide +kernel
theorem dX18_isRay_10 : decode cX18_isRay 10 = .ok (.goto 4, 3) := by decide +kernel
theorem dX18_isRay_13 : decode cX18_isRay 13 = .ok (.iconst 0, 1) := by decide +kernel
theorem dX18_isRay_14 : decode cX18_isRay 14 = .ok (.ireturn, 1) := by decide +kernel
set_option maxRecDepth 20000 in
theorem ggX18_view_X18_isRay : GoodIn wsX18_view wsX18_isRay := goodIn_r _ [6, 7, 8, 9, 10, 11, 12, 13, 14, 15, 16, 17, 18, 19, 20, 21, 22, 23, 24, 25, 26, 27, 28, 29, 30, 31, 32, 33, 34, 35, 36, 37, 38, 39, 40, 41, 42, 43, 44, 45, 46, 47, 48, 49, 50, 51, 52, 53, 54, 55, 56, 57, 58, 59, 60, 61, 62, 63, 64, 65, 66, 67, 68, 69, 70, 71, 72, 73, 74, 75, 76, 77, 78, 79, 80, 81, 82, 83, 84, 85, 86, 87, 88, 89, 90, 91, 92, 93, 94, 95, 219, 220, 221, 222] (by decide +kernel) (by decide +kernel)
set_option maxRecDepth 20000 in
theorem gX18_view_X18_isRay : GoodIn wsX18_view (va_wsS RX18 179 yX18_isRay wsX18_isRay) := goodIn_app (goodIn_of _ (by decide +kernel)) ggX18_view_X18_isRay
set_option maxRecDepth 20000 in
theorem ggX18_view_X18_isPlace : GoodIn wsX18_view wsX18_isPlace := goodIn_r _ [98, 99, 100, 5, 101] (by decide +kernel) (by decide +kernel)
set_option maxRecDepth 20000 in
theorem gX18_view_X18_isPlace : GoodIn wsX18_view (va_wsS RX18 124 yX18_isPlace wsX18_isPlace) := goodIn_app (goodIn_of _ (by decide +kernel)) ggX18_view_X18_isPlace
set_option maxRecDepth 20000 in
theorem ggX18_view_X14_view : GoodIn wsX18_view wsX14_view := goodIn_r _ [106, 107, 108, 109, 110, 105, 111, 112, 113, 37, 114, 115, 36, 38, 116, 117, 118, 119, 100, 5, 101, 120, 121, 122, 123, 124, 125, 126, 127, 128, 129, 130, 131, 132, 133, 134, 135, 136, 137, 138, 139, 140, 141, 142, 143, 144, 145, 146, 147, 148, 149, 150, 151, 152, 153, 154, 155, 156, 157, 158, 159, 160, 161, 162, 163, 164, 40, 41, 165, 166, 167, 168, 169, 170, 171, 172, 173, 174, 175, 176, 177, 178, 179, 180, 181, 182, 183, 70, 184, 185, 186, 187, 188, 189, 190, 191, 192, 193, 194, 195, 196, 197, 223, 224, 225, 226, 227, 228, 229, 230, 231, 232, 233, 234, 235, 236, 237, 238, 239, 240, 241, 242, 243, 244, 245, 246, 247, 248, 249, 250, 251, 252, 253] (by decide +kernel) (by decide +kernel)
set_option maxRecDepth 20000 in
theorem gX18_view_X14_view : GoodIn wsX18_view (wsV RX18 183 RX14 yX14_view wsX14_view) := goodIn_app (goodIn_of _ (by decide +kernel)) ggX18_view_X14_view
set_option maxRecDepth 20000 in
theorem ggX18_view_X18_fails : GoodIn wsX18_view wsX18_fails := goodIn_r _ [201, 1, 202, 203, 204, 205, 206, 207, 208, 209, 210, 211, 212, 213, 214, 215, 216, 217, 218] (by decide +kernel) (by decide +kernel)
set_option maxRecDepth 20000 in
theorem gX18_view_X18_fails : GoodIn wsX18_view (wsV RX18 88 RX18 yX18_fails wsX18_fails) := goodIn_app (goodIn_of _ (by decide +kernel)) ggX18_view_X18_fails
theorem dX18_view_0 : decode cX18_view 0 = .ok (.aload_n 0, 1) := by decide +kernel
theorem dX18_view_1 : decode cX18_view 1 = .ok (.iconst 0, 1) := by decide +kernel
theorem dX18_view_2 : decode cX18_view 2 = .ok (.putfield 67, 3) := by decide +kernel
theorem dX18_view_5 : decode cX18_view 5 = .ok (.iload_n 1, 1) := by decide +kernel
theorem dX18_view_6 : decode cX18_view 6 = .ok (.invokestatic 179, 3) := by decide +kernel
theorem dX18_view_9 : decode cX18_view 9 = .ok (.ifCond .eq 28, 3) := by decide +kernel
theorem dX18_view_12 : decode cX18_view 12 = .ok (.iload_n 2, 1) := by decide +kernel
theorem dX18_view_13 : decode cX18_view 13 = .ok (.iload_n 3, 1) := by decide +kernel
theorem dX18_view_14 : decode cX18_view 14 = .ok (.invokestatic 124, 3) := by decide +kernel
theorem dX18_view_17 : decode cX18_view 17 = .ok (.ifCond .eq 20, 3) := by decide +kernel
theorem dX18_view_20 : decode cX18_view 20 = .ok (.aload_n 0, 1) := by decide +kernel
theorem dX18_view_21 : decode cX18_view 21 = .ok (.getfield 25, 3) := by decide +kernel
theorem dX18_view_24 : decode cX18_view 24 = .ok (.iload_n 1, 1) := by decide +kernel
theorem dX18_view_25 : decode cX18_view 25 = .ok (.bipush 8, 2) := by decide +kernel
theorem dX18_view_27 : decode cX18_view 27 = .ok (.iload_n 3, 1) := by decide +kernel
theorem dX18_view_28 : decode cX18_view 28 = .ok (.imul, 1) := by decide +kernel
theorem dX18_view_29 : decode cX18_view 29 = .ok (.iload_n 2, 1) := by decide +kernel
theorem dX18_view_30 : decode cX18_view 30 = .ok (.iadd, 1) := by decide +kernel
theorem dX18_view_31 : decode cX18_view 31 = .ok (.invokevirtual 183, 3) := by decide +kernel
theorem dX18_view_34 : decode cX18_view 34 = .ok (.goto 8, 3) := by decide +kernel
theorem dX18_view_37 : decode cX18_view 37 = .ok (.aload_n 0, 1) := by decide +kernel
theorem dX18_view_38 : decode cX18_view 38 = .ok (.iconst 1, 1) := by decide +kernel
theorem dX18_view_39 : decode cX18_view 39 = .ok (.invokevirtual 88, 3) := by decide +kernel
theorem dX18_view_42 : decode cX18_view 42 = .ok (.ireturn, 1) := by decide +kernel
set_option maxRecDepth 20000 in
theorem ggX18_note_X18_isRay : GoodIn wsX18_note wsX18_isRay := goodIn_r _ [8, 9, 10, 11, 12, 13, 14, 15, 16, 17, 18, 19, 20, 21, 22, 23, 24, 25, 26, 27, 28, 29, 30, 31, 32, 33, 34, 35, 36, 37, 38, 39, 40, 41, 42, 43, 44, 45, 46, 47, 48, 49, 50, 51, 52, 53, 54, 55, 56, 57, 58, 59, 60, 61, 62, 63, 64, 65, 66, 67, 68, 69, 70, 71, 72, 73, 74, 75, 76, 77, 78, 79, 80, 81, 82, 83, 84, 85, 86, 87, 88, 89, 90, 91, 92, 93, 94, 95, 96, 97, 221, 222, 223, 224] (by decide +kernel) (by decide +kernel)
set_option maxRecDepth 20000 in
theorem gX18_note_X18_isRay : GoodIn wsX18_note (va_wsS RX18 179 yX18_isRay wsX18_isRay) := goodIn_app (goodIn_of _ (by decide +kernel)) ggX18_note_X18_isRay
set_option maxRecDepth 20000 in
theorem ggX18_note_X18_isPlace : GoodIn wsX18_note wsX18_isPlace := goodIn_r _ [100, 101, 102, 7, 103] (by decide +kernel) (by decide +kernel)
set_option maxRecDepth 20000 in
theorem gX18_note_X18_isPlace : GoodIn wsX18_note (va_wsS RX18 124 yX18_isPlace wsX18_isPlace) := goodIn_app (goodIn_of _ (by decide +kernel)) ggX18_note_X18_isPlace
set_option maxRecDepth 20000 in
theorem ggX18_note_X18_fails : GoodIn wsX18_note wsX18_fails := goodIn_r _ [107, 1, 204, 205, 206, 207, 208, 209, 210, 211, 212, 213, 214, 215, 216, 217, 218, 219, 220] (by decide +kernel) (by decide +kernel)
set_option maxRecDepth 20000 in
theorem gX18_note_X18_fails : GoodIn wsX18_note (wsV RX18 88 RX18 yX18_fails wsX18_fails) := goodIn_app (goodIn_of _ (by decide +kernel)) ggX18_note_X18_fails
set_option maxRecDepth 20000 in
theorem ggX18_note_J0_indexOf_0f7a4 : GoodIn wsX18_note wsJ0_indexOf_0f7a4 := goodIn_r _ [13, 14, 15, 16, 12, 17, 18, 19, 20, 21, 22, 23, 24, 25, 26, 27, 28, 29, 30, 31, 32, 33, 34, 35, 36, 37, 38, 39, 40, 41, 42, 43, 44, 45, 46, 47, 48, 49, 50, 51, 52, 53, 54, 55, 56, 57, 58, 59, 60, 61, 62, 63, 64, 65, 66, 67, 68, 69, 70, 71, 72, 73, 74, 75, 76, 77, 78, 79, 80, 81, 82, 83, 84, 85, 86, 87, 88, 89, 90, 91, 92, 93, 94, 95, 96, 97, 221, 222, 223, 224] (by decide +kernel) (by decide +kernel)
set_option maxRecDepth 20000 in
theorem gX18_note_J0_indexOf_0f7a4 : GoodIn wsX18_note (wsV RX18 82 RJ0 yJ0_indexOf_0f7a4 wsJ0_indexOf_0f7a4) := goodIn_app (goodIn_of _ (by decide +kernel)) ggX18_note_J0_indexOf_0f7a4
set_option maxRecDepth 20000 in
theorem ggX18_note_X14_view : GoodIn wsX18_note wsX14_view := goodIn_r _ [112, 113, 114, 115, 116, 111, 117, 118, 119, 39, 120, 121, 38, 40, 122, 123, 124, 125, 102, 7, 103, 126, 127, 128, 129, 130, 131, 132, 133, 134, 135, 136, 137, 138, 139, 140, 141, 142, 143, 144, 145, 146, 147, 148, 149, 150, 151, 152, 153, 154, 155, 156, 157, 158, 159, 160, 161, 162, 163, 164, 165, 166, 167, 168, 169, 170, 42, 43, 171, 172, 173, 174, 175, 176, 177, 178, 179, 180, 181, 182, 183, 184, 185, 186, 187, 188, 189, 72, 190, 191, 192, 193, 194, 195, 196, 197, 198, 199, 200, 201, 202, 203, 225, 226, 227, 228, 229, 230, 231, 232, 233, 234, 235, 236, 237, 238, 239, 240, 241, 242, 243, 244, 245, 246, 247, 248, 249, 250, 251, 252, 253, 254, 255] (by decide +kernel) (by decide +kernel)
set_option maxRecDepth 20000 in
theorem gX18_note_X14_view : GoodIn wsX18_note (wsV RX18 183 RX14 yX14_view wsX14_view) := goodIn_app (goodIn_of _ (by decide +kernel)) ggX18_note_X14_view
theorem dX18_note_0 : decode cX18_note 0 = .ok (.aload_n 0, 1) := by decide +kernel
theorem dX18_note_1 : decode cX18_note 1 = .ok (.iconst 0, 1) := by decide +kernel
theorem dX18_note_2 : decode cX18_note 2 = .ok (.putfield 67, 3) := by decide +kernel
theorem dX18_note_5 : decode cX18_note 5 = .ok (.iload_n 1, 1) := by decide +kernel
theorem dX18_note_6 : decode cX18_note 6 = .ok (.invokestatic 179, 3) := by decide +kernel
theorem dX18_note_9 : decode cX18_note 9 = .ok (.ifCond .eq 11, 3) := by decide +kernel
theorem dX18_note_12 : decode cX18_note 12 = .ok (.iload_n 2, 1) := by decide +kernel
theorem dX18_note_13 : decode cX18_note 13 = .ok (.iload_n 3, 1) := by decide +kernel
theorem dX18_note_14 : decode cX18_note 14 = .ok (.invokestatic 124, 3) := by decide +kernel
theorem dX18_note_17 : decode cX18_note 17 = .ok (.ifCond .ne 9, 3) := by decide +kernel
theorem dX18_note_20 : decode cX18_note 20 = .ok (.aload_n 0, 1) := by decide +kernel
theorem dX18_note_21 : decode cX18_note 21 = .ok (.iconst 1, 1) := by decide +kernel
theorem dX18_note_22 : decode cX18_note 22 = .ok (.invokevirtual 88, 3) := by decide +kernel
theorem dX18_note_25 : decode cX18_note 25 = .ok (.ireturn, 1) := by decide +kernel
theorem dX18_note_26 : decode cX18_note 26 = .ok (.bipush 48, 2) := by decide +kernel
theorem dX18_note_28 : decode cX18_note 28 = .ok (.ldc 177, 2) := by decide +kernel
theorem dX18_note_30 : decode cX18_note 30 = .ok (.iload_n 1, 1) := by decide +kernel
theorem dX18_note_31 : decode cX18_note 31 = .ok (.invokevirtual 82, 3) := by decide +kernel
theorem dX18_note_34 : decode cX18_note 34 = .ok (.imul, 1) := by decide +kernel
theorem dX18_note_35 : decode cX18_note 35 = .ok (.bipush 8, 2) := by decide +kernel
theorem dX18_note_37 : decode cX18_note 37 = .ok (.iload_n 3, 1) := by decide +kernel
theorem dX18_note_38 : decode cX18_note 38 = .ok (.imul, 1) := by decide +kernel
theorem dX18_note_39 : decode cX18_note 39 = .ok (.iadd, 1) := by decide +kernel
theorem dX18_note_40 : decode cX18_note 40 = .ok (.iload_n 2, 1) := by decide +kernel
theorem dX18_note_41 : decode cX18_note 41 = .ok (.iadd, 1) := by decide +kernel
theorem dX18_note_42 : decode cX18_note 42 = .ok (.istore 4, 2) := by decide +kernel
theorem dX18_note_44 : decode cX18_note 44 = .ok (.aload_n 0, 1) := by decide +kernel
theorem dX18_note_45 : decode cX18_note 45 = .ok (.getfield 39, 3) := by decide +kernel
theorem dX18_note_48 : decode cX18_note 48 = .ok (.iload 4, 2) := by decide +kernel
theorem dX18_note_50 : decode cX18_note 50 = .ok (.aload_n 0, 1) := by decide +kernel
theorem dX18_note_51 : decode cX18_note 51 = .ok (.getfield 25, 3) := by decide +kernel
theorem dX18_note_54 : decode cX18_note 54 = .ok (.iload_n 1, 1) := by decide +kernel
theorem dX18_note_55 : decode cX18_note 55 = .ok (.bipush 8, 2) := by decide +kernel
theorem dX18_note_57 : decode cX18_note 57 = .ok (.iload_n 3, 1) := by decide +kernel
theorem dX18_note_58 : decode cX18_note 58 = .ok (.imul, 1) := by decide +kernel
theorem dX18_note_59 : decode cX18_note 59 = .ok (.iload_n 2, 1) := by decide +kernel
theorem dX18_note_60 : decode cX18_note 60 = .ok (.iadd, 1) := by decide +kernel
theorem dX18_note_61 : decode cX18_note 61 = .ok (.invokevirtual 183, 3) := by decide +kernel
theorem dX18_note_64 : decode cX18_note 64 = .ok (.iastore, 1) := by decide +kernel
theorem dX18_note_65 : decode cX18_note 65 = .ok (.aload_n 0, 1) := by decide +kernel
theorem dX18_note_66 : decode cX18_note 66 = .ok (.getfield 43, 3) := by decide +kernel
theorem dX18_note_69 : decode cX18_note 69 = .ok (.iload 4, 2) := by decide +kernel
theorem dX18_note_71 : decode cX18_note 71 = .ok (.iconst 1, 1) := by decide +kernel
theorem dX18_note_72 : decode cX18_note 72 = .ok (.bastore, 1) := by decide +kernel
theorem dX18_note_73 : decode cX18_note 73 = .ok (.aload_n 0, 1) := by decide +kernel
theorem dX18_note_74 : decode cX18_note 74 = .ok (.getfield 39, 3) := by decide +kernel
theorem dX18_note_77 : decode cX18_note 77 = .ok (.iload 4, 2) := by decide +kernel
theorem dX18_note_79 : decode cX18_note 79 = .ok (.iaload, 1) := by decide +kernel
theorem dX18_note_80 : decode cX18_note 80 = .ok (.ireturn, 1) := by decide +kernel
set_option maxRecDepth 20000 in
theorem ggX18_noted_X18_isRay : GoodIn wsX18_noted wsX18_isRay := goodIn_r _ [7, 8, 9, 10, 11, 12, 13, 14, 15, 16, 17, 18, 19, 20, 21, 22, 23, 24, 25, 26, 27, 28, 29, 30, 31, 32, 33, 34, 35, 36, 37, 38, 39, 40, 41, 42, 43, 44, 45, 46, 47, 48, 49, 50, 51, 52, 53, 54, 55, 56, 57, 58, 59, 60, 61, 62, 63, 64, 65, 66, 67, 68, 69, 70, 71, 72, 73, 74, 75, 76, 77, 78, 79, 80, 81, 82, 83, 84, 85, 86, 87, 88, 89, 90, 91, 92, 93, 94, 95, 96, 124, 125, 126, 127] (by decide +kernel) (by decide +kernel)
set_option maxRecDepth 20000 in
theorem gX18_noted_X18_isRay : GoodIn wsX18_noted (va_wsS RX18 179 yX18_isRay wsX18_isRay) := goodIn_app (goodIn_of _ (by decide +kernel)) ggX18_noted_X18_isRay
set_option maxRecDepth 20000 in
theorem ggX18_noted_X18_isPlace : GoodIn wsX18_noted wsX18_isPlace := goodIn_r _ [99, 100, 101, 6, 102] (by decide +kernel) (by decide +kernel)
set_option maxRecDepth 20000 in
theorem gX18_noted_X18_isPlace : GoodIn wsX18_noted (va_wsS RX18 124 yX18_isPlace wsX18_isPlace) := goodIn_app (goodIn_of _ (by decide +kernel)) ggX18_noted_X18_isPlace
set_option maxRecDepth 20000 in
theorem ggX18_noted_X18_fails : GoodIn wsX18_noted wsX18_fails := goodIn_r _ [106, 1, 107, 108, 109, 110, 111, 112, 113, 114, 115, 116, 117, 118, 119, 120, 121, 122, 123] (by decide +kernel) (by decide +kernel)
set_option maxRecDepth 20000 in
theorem gX18_noted_X18_fails : GoodIn wsX18_noted (wsV RX18 88 RX18 yX18_fails wsX18_fails) := goodIn_app (goodIn_of _ (by decide +kernel)) ggX18_noted_X18_fails
set_option maxRecDepth 20000 in
theorem ggX18_noted_J0_indexOf_0f7a4 : GoodIn wsX18_noted wsJ0_indexOf_0f7a4 := goodIn_r _ [12, 13, 14, 15, 11, 16, 17, 18, 19, 20, 21, 22, 23, 24, 25, 26, 27, 28, 29, 30, 31, 32, 33, 34, 35, 36, 37, 38, 39, 40, 41, 42, 43, 44, 45, 46, 47, 48, 49, 50, 51, 52, 53, 54, 55, 56, 57, 58, 59, 60, 61, 62, 63, 64, 65, 66, 67, 68, 69, 70, 71, 72, 73, 74, 75, 76, 77, 78, 79, 80, 81, 82, 83, 84, 85, 86, 87, 88, 89, 90, 91, 92, 93, 94, 95, 96, 124, 125, 126, 127] (by decide +kernel) (by decide +kernel)
set_option maxRecDepth 20000 in
theorem gX18_noted_J0_indexOf_0f7a4 : GoodIn wsX18_noted (wsV RX18 82 RJ0 yJ0_indexOf_0f7a4 wsJ0_indexOf_0f7a4) := goodIn_app (goodIn_of _ (by decide +kernel)) ggX18_noted_J0_indexOf_0f7a4
theorem dX18_noted_0 : decode cX18_noted 0 = .ok (.aload_n 0, 1) := by decide +kernel
theorem dX18_noted_1 : decode cX18_noted 1 = .ok (.iconst 0, 1) := by decide +kernel
theorem dX18_noted_2 : decode cX18_noted 2 = .ok (.putfield 67, 3) := by decide +kernel
theorem dX18_noted_5 : decode cX18_noted 5 = .ok (.iload_n 1, 1) := by decide +kernel
theorem dX18_noted_6 : decode cX18_noted 6 = .ok (.invokestatic 179, 3) := by decide +kernel
theorem dX18_noted_9 : decode cX18_noted 9 = .ok (.ifCond .eq 11, 3) := by decide +kernel
theorem dX18_noted_12 : decode cX18_noted 12 = .ok (.iload_n 2, 1) := by decide +kernel
theorem dX18_noted_13 : decode cX18_noted 13 = .ok (.iload_n 3, 1) := by decide +kernel
theorem dX18_noted_14 : decode cX18_noted 14 = .ok (.invokestatic 124, 3) := by decide +kernel
theorem dX18_noted_17 : decode cX18_noted 17 = .ok (.ifCond .ne 9, 3) := by decide +kernel
theorem dX18_noted_20 : decode cX18_noted 20 = .ok (.aload_n 0, 1) := by decide +kernel
theorem dX18_noted_21 : decode cX18_noted 21 = .ok (.iconst 1, 1) := by decide +kernel
theorem dX18_noted_22 : decode cX18_noted 22 = .ok (.invokevirtual 88, 3) := by decide +kernel
theorem dX18_noted_25 : decode cX18_noted 25 = .ok (.ireturn, 1) := by decide +kernel
theorem dX18_noted_26 : decode cX18_noted 26 = .ok (.bipush 48, 2) := by decide +kernel
theorem dX18_noted_28 : decode cX18_noted 28 = .ok (.ldc 177, 2) := by decide +kernel
theorem dX18_noted_30 : decode cX18_noted 30 = .ok (.iload_n 1, 1) := by decide +kernel
theorem dX18_noted_31 : decode cX18_noted 31 = .ok (.invokevirtual 82, 3) := by decide +kernel
theorem dX18_noted_34 : decode cX18_noted 34 = .ok (.imul, 1) := by decide +kernel
theorem dX18_noted_35 : decode cX18_noted 35 = .ok (.bipush 8, 2) := by decide +kernel
theorem dX18_noted_37 : decode cX18_noted 37 = .ok (.iload_n 3, 1) := by decide +kernel
theorem dX18_noted_38 : decode cX18_noted 38 = .ok (.imul, 1) := by decide +kernel
theorem dX18_noted_39 : decode cX18_noted 39 = .ok (.iadd, 1) := by decide +kernel
theorem dX18_noted_40 : decode cX18_noted 40 = .ok (.iload_n 2, 1) := by decide +kernel
theorem dX18_noted_41 : decode cX18_noted 41 = .ok (.iadd, 1) := by decide +kernel
theorem dX18_noted_42 : decode cX18_noted 42 = .ok (.istore 4, 2) := by decide +kernel
theorem dX18_noted_44 : decode cX18_noted 44 = .ok (.aload_n 0, 1) := by decide +kernel
theorem dX18_noted_45 : decode cX18_noted 45 = .ok (.getfield 43, 3) := by decide +kernel
theorem dX18_noted_48 : decode cX18_noted 48 = .ok (.iload 4, 2) := by decide +kernel
theorem dX18_noted_50 : decode cX18_noted 50 = .ok (.baload, 1) := by decide +kernel
theorem dX18_noted_51 : decode cX18_noted 51 = .ok (.ifCond .eq 13, 3) := by decide +kernel
theorem dX18_noted_54 : decode cX18_noted 54 = .ok (.aload_n 0, 1) := by decide +kernel
theorem dX18_noted_55 : decode cX18_noted 55 = .ok (.getfield 39, 3) := by decide +kernel
theorem dX18_noted_58 : decode cX18_noted 58 = .ok (.iload 4, 2) := by decide +kernel
theorem dX18_noted_60 : decode cX18_noted 60 = .ok (.iaload, 1) := by decide +kernel
theorem dX18_noted_61 : decode cX18_noted 61 = .ok (.goto 8, 3) := by decide +kernel
theorem dX18_noted_64 : decode cX18_noted 64 = .ok (.aload_n 0, 1) := by decide +kernel
theorem dX18_noted_65 : decode cX18_noted 65 = .ok (.iconst 2, 1) := by decide +kernel
theorem dX18_noted_66 : decode cX18_noted 66 = .ok (.invokevirtual 88, 3) := by decide +kernel
theorem dX18_noted_69 : decode cX18_noted 69 = .ok (.ireturn, 1) := by decide +kernel
set_option maxRecDepth 20000 in
theorem ggX18_isAlike_J0_charAt_5068e : GoodIn wsX18_isAlike wsJ0_charAt_5068e := goodIn_r _ [11, 12, 13, 14, 15, 10, 16, 17, 18, 19, 20, 21, 22, 23, 24, 25, 26, 27, 28, 29, 30, 31, 32, 33, 34, 35, 36, 37, 38, 39, 40, 41, 42, 43, 44, 45, 46, 47, 139, 140, 141, 142] (by decide +kernel) (by decide +kernel)
set_option maxRecDepth 20000 in
theorem gX18_isAlike_J0_charAt_5068e : GoodIn wsX18_isAlike (wsV RX18 189 RJ0 yJ0_charAt_5068e wsJ0_charAt_5068e) := goodIn_app (goodIn_of _ (by decide +kernel)) ggX18_isAlike_J0_charAt_5068e
set_option maxRecDepth 20000 in
theorem ggX18_isAlike_X15_view : GoodIn wsX18_isAlike wsX15_view := goodIn_r _ [52, 53, 54, 55, 56, 5, 57, 58, 59, 60, 51, 61, 62, 63, 64, 65, 66, 67, 68, 69, 70, 71, 72, 73, 74, 75, 76, 28, 29, 30, 77, 78, 79, 80, 81, 82, 83, 84, 85, 86, 87, 88, 89, 90, 91, 92, 93, 94, 95, 96, 97, 98, 99, 100, 101, 102, 103, 104, 105, 106, 107, 108, 109, 110, 111, 112, 113, 114, 115, 116, 117, 118, 119, 120, 121, 143, 144, 145, 146, 147, 148, 149, 150, 151, 152, 153, 154, 155, 156, 157, 158, 159, 160, 161, 162, 163, 164, 165, 166, 167] (by decide +kernel) (by decide +kernel)
set_option maxRecDepth 20000 in
theorem gX18_isAlike_X15_view : GoodIn wsX18_isAlike (wsV RX18 193 RX15 yX15_view wsX15_view) := goodIn_app (goodIn_of _ (by decide +kernel)) ggX18_isAlike_X15_view
theorem dX18_isAlike_0 : decode cX18_isAlike 0 = .ok (.iconst 0, 1) := by decide +kernel
theorem dX18_isAlike_1 : decode cX18_isAlike 1 = .ok (.istore_n 3, 1) := by decide +kernel
theorem dX18_isAlike_2 : decode cX18_isAlike 2 = .ok (.iload_n 3, 1) := by decide +kernel
theorem dX18_isAlike_3 : decode cX18_isAlike 3 = .ok (.iconst 4, 1) := by decide +kernel
theorem dX18_isAlike_4 : decode cX18_isAlike 4 = .ok (.if_icmp .ge 63, 3) := by decide +kernel
theorem dX18_isAlike_7 : decode cX18_isAlike 7 = .ok (.bipush 48, 2) := by decide +kernel
theorem dX18_isAlike_9 : decode cX18_isAlike 9 = .ok (.iload_n 3, 1) := by decide +kernel
theorem dX18_isAlike_10 : decode cX18_isAlike 10 = .ok (.imul, 1) := by decide +kernel
theorem dX18_isAlike_11 : decode cX18_isAlike 11 = .ok (.iload_n 2, 1) := by decide +kernel
theorem dX18_isAlike_12 : decode cX18_isAlike 12 = .ok (.iadd, 1) := by decide +kernel
theorem dX18_isAlike_13 : decode cX18_isAlike 13 = .ok (.istore 4, 2) := by decide +kernel
theorem dX18_isAlike_15 : decode cX18_isAlike 15 = .ok (.aload_n 0, 1) := by decide +kernel
theorem dX18_isAlike_16 : decode cX18_isAlike 16 = .ok (.getfield 43, 3) := by decide +kernel
theorem dX18_isAlike_19 : decode cX18_isAlike 19 = .ok (.iload 4, 2) := by decide +kernel
theorem dX18_isAlike_21 : decode cX18_isAlike 21 = .ok (.baload, 1) := by decide +kernel
theorem dX18_isAlike_22 : decode cX18_isAlike 22 = .ok (.ifCond .eq 39, 3) := by decide +kernel
theorem dX18_isAlike_25 : decode cX18_isAlike 25 = .ok (.aload_n 1, 1) := by decide +kernel
theorem dX18_isAlike_26 : decode cX18_isAlike 26 = .ok (.ldc 187, 2) := by decide +kernel
theorem dX18_isAlike_28 : decode cX18_isAlike 28 = .ok (.iload_n 3, 1) := by decide +kernel
theorem dX18_isAlike_29 : decode cX18_isAlike 29 = .ok (.invokevirtual 189, 3) := by decide +kernel
theorem dX18_isAlike_32 : decode cX18_isAlike 32 = .ok (.invokevirtual 193, 3) := by decide +kernel
theorem dX18_isAlike_35 : decode cX18_isAlike 35 = .ok (.aload_n 0, 1) := by decide +kernel
theorem dX18_isAlike_36 : decode cX18_isAlike 36 = .ok (.getfield 39, 3) := by decide +kernel
theorem dX18_isAlike_39 : decode cX18_isAlike 39 = .ok (.iload 4, 2) := by decide +kernel
theorem dX18_isAlike_41 : decode cX18_isAlike 41 = .ok (.iaload, 1) := by decide +kernel
theorem dX18_isAlike_42 : decode cX18_isAlike 42 = .ok (.isub, 1) := by decide +kernel
theorem dX18_isAlike_43 : decode cX18_isAlike 43 = .ok (.invokestatic 119, 3) := by decide +kernel
theorem dX18_isAlike_46 : decode cX18_isAlike 46 = .ok (.iload_n 3, 1) := by decide +kernel
theorem dX18_isAlike_47 : decode cX18_isAlike 47 = .ok (.iconst 2, 1) := by decide +kernel
theorem dX18_isAlike_48 : decode cX18_isAlike 48 = .ok (.if_icmp .ge 7, 3) := by decide +kernel
theorem dX18_isAlike_51 : decode cX18_isAlike 51 = .ok (.iconst 5, 1) := by decide +kernel
theorem dX18_isAlike_52 : decode cX18_isAlike 52 = .ok (.goto 4, 3) := by decide +kernel
theorem dX18_isAlike_55 : decode cX18_isAlike 55 = .ok (.iconst 0, 1) := by decide +kernel
theorem dX18_isAlike_56 : decode cX18_isAlike 56 = .ok (.if_icmp .le 5, 3) := by decide +kernel
theorem dX18_isAlike_59 : decode cX18_isAlike 59 = .ok (.iconst 0, 1) := by decide +kernel
theorem dX18_isAlike_60 : decode cX18_isAlike 60 = .ok (.ireturn, 1) := by decide +kernel
theorem dX18_isAlike_61 : decode cX18_isAlike 61 = .ok (.iinc 3 1, 3) := by decide +kernel
theorem dX18_isAlike_64 : decode cX18_isAlike 64 = .ok (.goto (-62), 3) := by decide +kernel
theorem dX18_isAlike_67 : decode cX18_isAlike 67 = .ok (.iconst 1, 1) := by decide +kernel
theorem dX18_isAlike_68 : decode cX18_isAlike 68 = .ok (.ireturn, 1) := by decide +kernel
set_option maxRecDepth 20000 in
theorem ggX18_possible_Jx4a65c_init_da8c8 : GoodIn wsX18_possible wsJx4a65c_init_da8c8 := goodIn_r _ [14, 15, 16, 17, 18, 19, 20, 21, 22, 23, 24, 25, 26, 27, 28, 232, 233, 234] (by decide +kernel) (by decide +kernel)
set_option maxRecDepth 20000 in
theorem gX18_possible_Jx4a65c_init_da8c8 : GoodIn wsX18_possible (wsJx4a65c_init_da8c8) := ggX18_possible_Jx4a65c_init_da8c8
set_option maxRecDepth 20000 in
theorem ggX18_possible_Jx4a65c_size_8abf5 : GoodIn wsX18_possible wsJx4a65c_size_8abf5 := goodIn_r _ [32, 33, 232, 233, 234] (by decide +kernel) (by decide +kernel)
set_option maxRecDepth 20000 in
theorem gX18_possible_Jx4a65c_size_8abf5_f74Jx4a65c : GoodIn wsX18_possible (va_wsF RX18 74 RJx4a65c ⟨"java/util/List", "size", "()I"⟩ yJx4a65c_size_8abf5 wsJx4a65c_size_8abf5) := goodIn_app (goodIn_of _ (by decide +kernel)) ggX18_possible_Jx4a65c_size_8abf5
set_option maxRecDepth 20000 in
theorem ggX18_possible_Jx4a65c_get_915e3 : GoodIn wsX18_possible wsJx4a65c_get_915e3 := goodIn_r _ [37, 33, 38, 39, 40, 41, 42, 43, 44, 45, 46, 47, 48, 3, 49, 16, 232, 233, 234] (by decide +kernel) (by decide +kernel)
set_option maxRecDepth 20000 in
theorem gX18_possible_Jx4a65c_get_915e3_f148Jx4a65c : GoodIn wsX18_possible (va_wsF RX18 148 RJx4a65c ⟨"java/util/List", "get", "(I)Ljava/lang/Object;"⟩ yJx4a65c_get_915e3 wsJx4a65c_get_915e3) := goodIn_app (goodIn_of _ (by decide +kernel)) ggX18_possible_Jx4a65c_get_915e3
set_option maxRecDepth 20000 in
theorem ggX18_possible_X13_init : GoodIn wsX18_possible wsX13_init := goodIn_r _ [52, 53, 27, 28, 54, 55, 56, 57, 252, 253, 254, 255, 256] (by decide +kernel) (by decide +kernel)
set_option maxRecDepth 20000 in
theorem gX18_possible_X13_init : GoodIn wsX18_possible (wsX13_init) := ggX18_possible_X13_init
set_option maxRecDepth 20000 in
theorem ggX18_possible_X15_init : GoodIn wsX18_possible wsX15_init := goodIn_r _ [60, 61, 27, 28, 62, 2, 3, 63, 64, 65, 13, 14, 15, 16, 17, 18, 19, 20, 21, 22, 23, 24, 25, 26, 232, 233, 234, 267, 268, 269] (by decide +kernel) (by decide +kernel)
set_option maxRecDepth 20000 in
theorem gX18_possible_X15_init : GoodIn wsX18_possible (wsX15_init) := ggX18_possible_X15_init
set_option maxRecDepth 20000 in
theorem ggX18_possible_Jx4a65c_add_9ea2d : GoodIn wsX18_possible wsJx4a65c_add_9ea2d := goodIn_r _ [69, 70, 71, 16, 33, 72, 73, 74, 3, 75, 76, 77, 78, 79, 80, 81, 82, 83, 15, 84, 85, 86, 87, 88, 89, 90, 91, 92, 93, 94, 95, 96, 97, 98, 99, 100, 101, 102, 103, 104, 105, 106, 107, 108, 109, 110, 111, 112, 113, 114, 115, 116, 117, 232, 233, 234] (by decide +kernel) (by decide +kernel)
set_option maxRecDepth 20000 in
theorem gX18_possible_Jx4a65c_add_9ea2d_f96Jx4a65c : GoodIn wsX18_possible (va_wsF RX18 96 RJx4a65c ⟨"java/util/List", "add", "(Ljava/lang/Object;)Z"⟩ yJx4a65c_add_9ea2d wsJx4a65c_add_9ea2d) := goodIn_app (goodIn_of _ (by decide +kernel)) ggX18_possible_Jx4a65c_add_9ea2d
set_option maxRecDepth 20000 in
theorem ggX18_possible_X18_isAlike : GoodIn wsX18_possible wsX18_isAlike := goodIn_ca (goodIn_r _ [122, 123, 124, 125, 126, 86, 127, 128, 129, 130, 131, 132, 133, 134, 135, 136, 137, 138, 139, 140, 141, 142, 143, 144, 145, 146, 147, 148, 43, 44, 45, 149, 150, 151, 152, 153, 154, 155, 156, 157, 158, 159, 160, 161, 162, 163, 164, 165, 166, 167, 168, 11, 169, 63, 170, 171, 112, 113, 172, 173, 174, 175, 176, 30, 31, 3, 32, 33, 177, 35, 36, 37, 38, 39, 40, 41, 42, 46, 47, 48, 49, 16, 178, 179, 180, 181, 182, 183, 184, 185, 186, 187, 188, 189, 27, 28, 190, 191, 71, 192, 193, 194, 195, 196, 197, 198, 199, 200, 201, 202, 203, 204, 205, 206, 207, 208, 209, 210, 211, 212, 213, 214, 235, 236, 237, 238, 239, 240, 241, 242, 243, 244, 245, 246, 247, 248, 249, 250, 251, 270, 271, 272, 273, 267, 268, 269, 252, 253, 254, 255, 256, 257, 258, 259, 260, 261, 262, 263, 264, 265, 266, 232, 233, 234, 274, 275, 276, 277] (by decide +kernel) (by decide +kernel)) (goodIn_sub (fun _ h => List.mem_cons_of_mem _ (List.mem_append_right _ h)) (by decide +kernel))
set_option maxRecDepth 20000 in
theorem gX18_possible_X18_isAlike : GoodIn wsX18_possible (wsV RX18 207 RX18 yX18_isAlike wsX18_isAlike) := goodIn_app (goodIn_of _ (by decide +kernel)) ggX18_possible_X18_isAlike
set_option maxRecDepth 20000 in
theorem ggX18_possible_J6_valueOf_2dffe : GoodIn wsX18_possible wsJ6_valueOf_2dffe := goodIn_r _ [218, 219, 220, 221, 222, 217, 223, 224, 225, 226, 227, 228, 229, 230, 231, 27, 28, 278] (by decide +kernel) (by decide +kernel)
set_option maxRecDepth 20000 in
theorem gX18_possible_J6_valueOf_2dffe : GoodIn wsX18_possible (va_wsS RX18 211 yJ6_valueOf_2dffe wsJ6_valueOf_2dffe) := goodIn_app (goodIn_of _ (by decide +kernel)) ggX18_possible_J6_valueOf_2dffe
theorem dX18_possible_0 : decode cX18_possible 0 = .ok (.new 7, 3) := by decide +kernel
theorem dX18_possible_3 : decode cX18_possible 3 = .ok (.dup, 1) := by decide +kernel
theorem dX18_possible_4 : decode cX18_possible 4 = .ok (.invokespecial 9, 3) := by decide +kernel
theorem dX18_possible_7 : decode cX18_possible 7 = .ok (.astore_n 2, 1) := by decide +kernel
theorem dX18_possible_8 : decode cX18_possible 8 = .ok (.aload_n 0, 1) := by decide +kernel
theorem dX18_possible_9 : decode cX18_possible 9 = .ok (.getfield 10, 3) := by decide +kernel
theorem dX18_possible_12 : decode cX18_possible 12 = .ok (.invokeinterface 74 1, 5) := by decide +kernel
theorem dX18_possible_17 : decode cX18_possible 17 = .ok (.istore_n 3, 1) := by decide +kernel
theorem dX18_possible_18 : decode cX18_possible 18 = .ok (.iload_n 3, 1) := by decide +kernel
theorem dX18_possible_19 : decode cX18_possible 19 = .ok (.anewarray 152, 3) := by decide +kernel
theorem dX18_possible_22 : decode cX18_possible 22 = .ok (.astore 4, 2) := by decide +kernel
theorem dX18_possible_24 : decode cX18_possible 24 = .ok (.iconst 0, 1) := by decide +kernel
theorem dX18_possible_25 : decode cX18_possible 25 = .ok (.istore 5, 2) := by decide +kernel
theorem dX18_possible_27 : decode cX18_possible 27 = .ok (.iload 5, 2) := by decide +kernel
theorem dX18_possible_29 : decode cX18_possible 29 = .ok (.iload_n 3, 1) := by decide +kernel
theorem dX18_possible_30 : decode cX18_possible 30 = .ok (.if_icmp .ge 55, 3) := by decide +kernel
theorem dX18_possible_33 : decode cX18_possible 33 = .ok (.aload 4, 2) := by decide +kernel
theorem dX18_possible_35 : decode cX18_possible 35 = .ok (.iload 5, 2) := by decide +kernel
theorem dX18_possible_37 : decode cX18_possible 37 = .ok (.new 152, 3) := by decide +kernel
theorem dX18_possible_40 : decode cX18_possible 40 = .ok (.dup, 1) := by decide +kernel
theorem dX18_possible_41 : decode cX18_possible 41 = .ok (.aload_n 0, 1) := by decide +kernel
theorem dX18_possible_42 : decode cX18_possible 42 = .ok (.getfield 10, 3) := by decide +kernel
theorem dX18_possible_45 : decode cX18_possible 45 = .ok (.iload 5, 2) := by decide +kernel
theorem dX18_possible_47 : decode cX18_possible 47 = .ok (.invokeinterface 148 2, 5) := by decide +kernel
theorem dX18_possible_52 : decode cX18_possible 52 = .ok (.checkcast 91, 3) := by decide +kernel
theorem dX18_possible_55 : decode cX18_possible 55 = .ok (.bipush 20, 2) := by decide +kernel
theorem dX18_possible_57 : decode cX18_possible 57 = .ok (.iconst 0, 1) := by decide +kernel
theorem dX18_possible_58 : decode cX18_possible 58 = .ok (.aload_n 0, 1) := by decide +kernel
theorem dX18_possible_59 : decode cX18_possible 59 = .ok (.getfield 10, 3) := by decide +kernel
theorem dX18_possible_62 : decode cX18_possible 62 = .ok (.iload 5, 2) := by decide +kernel
theorem dX18_possible_64 : decode cX18_possible 64 = .ok (.invokeinterface 148 2, 5) := by decide +kernel
theorem dX18_possible_69 : decode cX18_possible 69 = .ok (.checkcast 91, 3) := by decide +kernel
theorem dX18_possible_72 : decode cX18_possible 72 = .ok (.getfield 196, 3) := by decide +kernel
theorem dX18_possible_75 : decode cX18_possible 75 = .ok (.invokespecial 197, 3) := by decide +kernel
theorem dX18_possible_78 : decode cX18_possible 78 = .ok (.aastore, 1) := by decide +kernel
theorem dX18_possible_79 : decode cX18_possible 79 = .ok (.iinc 5 1, 3) := by decide +kernel
theorem dX18_possible_82 : decode cX18_possible 82 = .ok (.goto (-55), 3) := by decide +kernel
