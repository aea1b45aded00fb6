theorem dX18_possible_85 : decode cX18_possible 85 = .ok (.iconst 1, 1) := by decide +kernel
theorem dX18_possible_86 : decode cX18_possible 86 = .ok (.istore 5, 2) := by decide +kernel
theorem dX18_possible_88 : decode cX18_possible 88 = .ok (.iload 5, 2) := by decide +kernel
theorem dX18_possible_90 : decode cX18_possible 90 = .ok (.iconst 4, 1) := by decide +kernel
theorem dX18_possible_91 : decode cX18_possible 91 = .ok (.if_icmp .ge 261, 3) := by decide +kernel
theorem dX18_possible_94 : decode cX18_possible 94 = .ok (.iload 5, 2) := by decide +kernel
theorem dX18_possible_96 : decode cX18_possible 96 = .ok (.iconst 1, 1) := by decide +kernel
theorem dX18_possible_97 : decode cX18_possible 97 = .ok (.if_icmp .ne 7, 3) := by decide +kernel
theorem dX18_possible_100 : decode cX18_possible 100 = .ok (.iload_n 3, 1) := by decide +kernel
theorem dX18_possible_101 : decode cX18_possible 101 = .ok (.goto 20, 3) := by decide +kernel
theorem dX18_possible_104 : decode cX18_possible 104 = .ok (.iload 5, 2) := by decide +kernel
theorem dX18_possible_106 : decode cX18_possible 106 = .ok (.iconst 2, 1) := by decide +kernel
theorem dX18_possible_107 : decode cX18_possible 107 = .ok (.if_icmp .ne 9, 3) := by decide +kernel
theorem dX18_possible_110 : decode cX18_possible 110 = .ok (.iload_n 3, 1) := by decide +kernel
theorem dX18_possible_111 : decode cX18_possible 111 = .ok (.iload_n 3, 1) := by decide +kernel
theorem dX18_possible_112 : decode cX18_possible 112 = .ok (.imul, 1) := by decide +kernel
theorem dX18_possible_113 : decode cX18_possible 113 = .ok (.goto 8, 3) := by decide +kernel
theorem dX18_possible_116 : decode cX18_possible 116 = .ok (.iload_n 3, 1) := by decide +kernel
theorem dX18_possible_117 : decode cX18_possible 117 = .ok (.iload_n 3, 1) := by decide +kernel
theorem dX18_possible_118 : decode cX18_possible 118 = .ok (.imul, 1) := by decide +kernel
theorem dX18_possible_119 : decode cX18_possible 119 = .ok (.iload_n 3, 1) := by decide +kernel
theorem dX18_possible_120 : decode cX18_possible 120 = .ok (.imul, 1) := by decide +kernel
theorem dX18_possible_121 : decode cX18_possible 121 = .ok (.istore 6, 2) := by decide +kernel
theorem dX18_possible_123 : decode cX18_possible 123 = .ok (.iconst 0, 1) := by decide +kernel
theorem dX18_possible_124 : decode cX18_possible 124 = .ok (.istore 7, 2) := by decide +kernel
theorem dX18_possible_126 : decode cX18_possible 126 = .ok (.iload 7, 2) := by decide +kernel
theorem dX18_possible_128 : decode cX18_possible 128 = .ok (.iload 6, 2) := by decide +kernel
theorem dX18_possible_130 : decode cX18_possible 130 = .ok (.if_icmp .ge 216, 3) := by decide +kernel
theorem dX18_possible_133 : decode cX18_possible 133 = .ok (.iload 5, 2) := by decide +kernel
theorem dX18_possible_135 : decode cX18_possible 135 = .ok (.iconst 1, 1) := by decide +kernel
theorem dX18_possible_136 : decode cX18_possible 136 = .ok (.if_icmp .ne 8, 3) := by decide +kernel
theorem dX18_possible_139 : decode cX18_possible 139 = .ok (.iload 7, 2) := by decide +kernel
theorem dX18_possible_141 : decode cX18_possible 141 = .ok (.goto 22, 3) := by decide +kernel
theorem dX18_possible_144 : decode cX18_possible 144 = .ok (.iload 5, 2) := by decide +kernel
theorem dX18_possible_146 : decode cX18_possible 146 = .ok (.iconst 2, 1) := by decide +kernel
theorem dX18_possible_147 : decode cX18_possible 147 = .ok (.if_icmp .ne 10, 3) := by decide +kernel
theorem dX18_possible_150 : decode cX18_possible 150 = .ok (.iload 7, 2) := by decide +kernel
theorem dX18_possible_152 : decode cX18_possible 152 = .ok (.iload_n 3, 1) := by decide +kernel
theorem dX18_possible_153 : decode cX18_possible 153 = .ok (.idiv, 1) := by decide +kernel
theorem dX18_possible_154 : decode cX18_possible 154 = .ok (.goto 9, 3) := by decide +kernel
theorem dX18_possible_157 : decode cX18_possible 157 = .ok (.iload 7, 2) := by decide +kernel
theorem dX18_possible_159 : decode cX18_possible 159 = .ok (.iload_n 3, 1) := by decide +kernel
theorem dX18_possible_160 : decode cX18_possible 160 = .ok (.idiv, 1) := by decide +kernel
theorem dX18_possible_161 : decode cX18_possible 161 = .ok (.iload_n 3, 1) := by decide +kernel
theorem dX18_possible_162 : decode cX18_possible 162 = .ok (.idiv, 1) := by decide +kernel
theorem dX18_possible_163 : decode cX18_possible 163 = .ok (.istore 8, 2) := by decide +kernel
theorem dX18_possible_165 : decode cX18_possible 165 = .ok (.iload 5, 2) := by decide +kernel
theorem dX18_possible_167 : decode cX18_possible 167 = .ok (.iconst 1, 1) := by decide +kernel
theorem dX18_possible_168 : decode cX18_possible 168 = .ok (.if_icmp .ne 8, 3) := by decide +kernel
theorem dX18_possible_171 : decode cX18_possible 171 = .ok (.bipush 13, 2) := by decide +kernel
theorem dX18_possible_173 : decode cX18_possible 173 = .ok (.goto 22, 3) := by decide +kernel
theorem dX18_possible_176 : decode cX18_possible 176 = .ok (.iload 5, 2) := by decide +kernel
theorem dX18_possible_178 : decode cX18_possible 178 = .ok (.iconst 2, 1) := by decide +kernel
theorem dX18_possible_179 : decode cX18_possible 179 = .ok (.if_icmp .ne 10, 3) := by decide +kernel
theorem dX18_possible_182 : decode cX18_possible 182 = .ok (.iload 7, 2) := by decide +kernel
theorem dX18_possible_184 : decode cX18_possible 184 = .ok (.iload_n 3, 1) := by decide +kernel
theorem dX18_possible_185 : decode cX18_possible 185 = .ok (.irem, 1) := by decide +kernel
theorem dX18_possible_186 : decode cX18_possible 186 = .ok (.goto 9, 3) := by decide +kernel
theorem dX18_possible_189 : decode cX18_possible 189 = .ok (.iload 7, 2) := by decide +kernel
theorem dX18_possible_191 : decode cX18_possible 191 = .ok (.iload_n 3, 1) := by decide +kernel
theorem dX18_possible_192 : decode cX18_possible 192 = .ok (.idiv, 1) := by decide +kernel
theorem dX18_possible_193 : decode cX18_possible 193 = .ok (.iload_n 3, 1) := by decide +kernel
theorem dX18_possible_194 : decode cX18_possible 194 = .ok (.irem, 1) := by decide +kernel
theorem dX18_possible_195 : decode cX18_possible 195 = .ok (.istore 9, 2) := by decide +kernel
theorem dX18_possible_197 : decode cX18_possible 197 = .ok (.iload 5, 2) := by decide +kernel
theorem dX18_possible_199 : decode cX18_possible 199 = .ok (.iconst 3, 1) := by decide +kernel
theorem dX18_possible_200 : decode cX18_possible 200 = .ok (.if_icmp .ge 8, 3) := by decide +kernel
theorem dX18_possible_203 : decode cX18_possible 203 = .ok (.bipush 13, 2) := by decide +kernel
theorem dX18_possible_205 : decode cX18_possible 205 = .ok (.goto 7, 3) := by decide +kernel
theorem dX18_possible_208 : decode cX18_possible 208 = .ok (.iload 7, 2) := by decide +kernel
theorem dX18_possible_210 : decode cX18_possible 210 = .ok (.iload_n 3, 1) := by decide +kernel
theorem dX18_possible_211 : decode cX18_possible 211 = .ok (.irem, 1) := by decide +kernel
theorem dX18_possible_212 : decode cX18_possible 212 = .ok (.istore 10, 2) := by decide +kernel
theorem dX18_possible_214 : decode cX18_possible 214 = .ok (.aload_n 0, 1) := by decide +kernel
theorem dX18_possible_215 : decode cX18_possible 215 = .ok (.getfield 10, 3) := by decide +kernel
theorem dX18_possible_218 : decode cX18_possible 218 = .ok (.iload 8, 2) := by decide +kernel
theorem dX18_possible_220 : decode cX18_possible 220 = .ok (.invokeinterface 148 2, 5) := by decide +kernel
theorem dX18_possible_225 : decode cX18_possible 225 = .ok (.checkcast 91, 3) := by decide +kernel
theorem dX18_possible_228 : decode cX18_possible 228 = .ok (.getfield 200, 3) := by decide +kernel
theorem dX18_possible_231 : decode cX18_possible 231 = .ok (.bipush 115, 2) := by decide +kernel
theorem dX18_possible_233 : decode cX18_possible 233 = .ok (.if_icmp .ne 107, 3) := by decide +kernel
theorem dX18_possible_236 : decode cX18_possible 236 = .ok (.new 142, 3) := by decide +kernel
theorem dX18_possible_239 : decode cX18_possible 239 = .ok (.dup, 1) := by decide +kernel
theorem dX18_possible_240 : decode cX18_possible 240 = .ok (.iload_n 1, 1) := by decide +kernel
theorem dX18_possible_241 : decode cX18_possible 241 = .ok (.invokespecial 204, 3) := by decide +kernel
theorem dX18_possible_244 : decode cX18_possible 244 = .ok (.astore 11, 2) := by decide +kernel
theorem dX18_possible_246 : decode cX18_possible 246 = .ok (.aload 11, 2) := by decide +kernel
theorem dX18_possible_248 : decode cX18_possible 248 = .ok (.getfield 141, 3) := by decide +kernel
theorem dX18_possible_251 : decode cX18_possible 251 = .ok (.aload 4, 2) := by decide +kernel
theorem dX18_possible_253 : decode cX18_possible 253 = .ok (.iload 8, 2) := by decide +kernel
theorem dX18_possible_255 : decode cX18_possible 255 = .ok (.aaload, 1) := by decide +kernel
theorem dX18_possible_256 : decode cX18_possible 256 = .ok (.invokeinterface 96 2, 5) := by decide +kernel
theorem dX18_possible_261 : decode cX18_possible 261 = .ok (.pop, 1) := by decide +kernel
theorem dX18_possible_262 : decode cX18_possible 262 = .ok (.iload 5, 2) := by decide +kernel
theorem dX18_possible_264 : decode cX18_possible 264 = .ok (.iconst 1, 1) := by decide +kernel
theorem dX18_possible_265 : decode cX18_possible 265 = .ok (.if_icmp .le 19, 3) := by decide +kernel
theorem dX18_possible_268 : decode cX18_possible 268 = .ok (.aload 11, 2) := by decide +kernel
theorem dX18_possible_270 : decode cX18_possible 270 = .ok (.getfield 141, 3) := by decide +kernel
theorem dX18_possible_273 : decode cX18_possible 273 = .ok (.aload 4, 2) := by decide +kernel
theorem dX18_possible_275 : decode cX18_possible 275 = .ok (.iload 9, 2) := by decide +kernel
theorem dX18_possible_277 : decode cX18_possible 277 = .ok (.aaload, 1) := by decide +kernel
theorem dX18_possible_278 : decode cX18_possible 278 = .ok (.invokeinterface 96 2, 5) := by decide +kernel
theorem dX18_possible_283 : decode cX18_possible 283 = .ok (.pop, 1) := by decide +kernel
theorem dX18_possible_284 : decode cX18_possible 284 = .ok (.iload 5, 2) := by decide +kernel
theorem dX18_possible_286 : decode cX18_possible 286 = .ok (.iconst 2, 1) := by decide +kernel
theorem dX18_possible_287 : decode cX18_possible 287 = .ok (.if_icmp .le 19, 3) := by decide +kernel
theorem dX18_possible_290 : decode cX18_possible 290 = .ok (.aload 11, 2) := by decide +kernel
theorem dX18_possible_292 : decode cX18_possible 292 = .ok (.getfield 141, 3) := by decide +kernel
theorem dX18_possible_295 : decode cX18_possible 295 = .ok (.aload 4, 2) := by decide +kernel
theorem dX18_possible_297 : decode cX18_possible 297 = .ok (.iload 10, 2) := by decide +kernel
theorem dX18_possible_299 : decode cX18_possible 299 = .ok (.aaload, 1) := by decide +kernel
theorem dX18_possible_300 : decode cX18_possible 300 = .ok (.invokeinterface 96 2, 5) := by decide +kernel
theorem dX18_possible_305 : decode cX18_possible 305 = .ok (.pop, 1) := by decide +kernel
theorem dX18_possible_306 : decode cX18_possible 306 = .ok (.aload_n 0, 1) := by decide +kernel
theorem dX18_possible_307 : decode cX18_possible 307 = .ok (.aload 11, 2) := by decide +kernel
theorem dX18_possible_309 : decode cX18_possible 309 = .ok (.iload_n 1, 1) := by decide +kernel
theorem dX18_possible_310 : decode cX18_possible 310 = .ok (.invokevirtual 207, 3) := by decide +kernel
theorem dX18_possible_313 : decode cX18_possible 313 = .ok (.ifCond .eq 27, 3) := by decide +kernel
theorem dX18_possible_316 : decode cX18_possible 316 = .ok (.aload_n 2, 1) := by decide +kernel
theorem dX18_possible_317 : decode cX18_possible 317 = .ok (.iload 8, 2) := by decide +kernel
theorem dX18_possible_319 : decode cX18_possible 319 = .ok (.bipush 14, 2) := by decide +kernel
theorem dX18_possible_321 : decode cX18_possible 321 = .ok (.imul, 1) := by decide +kernel
theorem dX18_possible_322 : decode cX18_possible 322 = .ok (.iload 9, 2) := by decide +kernel
theorem dX18_possible_324 : decode cX18_possible 324 = .ok (.iadd, 1) := by decide +kernel
theorem dX18_possible_325 : decode cX18_possible 325 = .ok (.bipush 14, 2) := by decide +kernel
theorem dX18_possible_327 : decode cX18_possible 327 = .ok (.imul, 1) := by decide +kernel
theorem dX18_possible_328 : decode cX18_possible 328 = .ok (.iload 10, 2) := by decide +kernel
theorem dX18_possible_330 : decode cX18_possible 330 = .ok (.iadd, 1) := by decide +kernel
theorem dX18_possible_331 : decode cX18_possible 331 = .ok (.invokestatic 211, 3) := by decide +kernel
theorem dX18_possible_334 : decode cX18_possible 334 = .ok (.invokeinterface 96 2, 5) := by decide +kernel
theorem dX18_possible_339 : decode cX18_possible 339 = .ok (.pop, 1) := by decide +kernel
theorem dX18_possible_340 : decode cX18_possible 340 = .ok (.iinc 7 1, 3) := by decide +kernel
theorem dX18_possible_343 : decode cX18_possible 343 = .ok (.goto (-217), 3) := by decide +kernel
theorem dX18_possible_346 : decode cX18_possible 346 = .ok (.iinc 5 1, 3) := by decide +kernel
theorem dX18_possible_349 : decode cX18_possible 349 = .ok (.goto (-261), 3) := by decide +kernel
theorem dX18_possible_352 : decode cX18_possible 352 = .ok (.aload_n 2, 1) := by decide +kernel
theorem dX18_possible_353 : decode cX18_possible 353 = .ok (.areturn, 1) := by decide +kernel
set_option maxRecDepth 20000 in
theorem ggX18_guesses_X18_isPlace : GoodIn wsX18_guesses wsX18_isPlace := goodIn_r _ [5, 6, 7, 4, 8] (by decide +kernel) (by decide +kernel)
set_option maxRecDepth 20000 in
theorem gX18_guesses_X18_isPlace : GoodIn wsX18_guesses (va_wsS RX18 124 yX18_isPlace wsX18_isPlace) := goodIn_app (goodIn_of _ (by decide +kernel)) ggX18_guesses_X18_isPlace
set_option maxRecDepth 20000 in
theorem ggX18_guesses_X18_possible : GoodIn wsX18_guesses wsX18_possible := goodIn_ca (goodIn_ca (goodIn_r _ [12, 13, 14, 15, 16, 17, 18, 19, 20, 21, 22, 23, 24, 25, 26, 27, 28, 29, 30, 31, 32, 33, 34, 35, 36, 37, 38, 39, 40, 41, 42, 43, 44, 45, 46, 47, 48, 49, 50, 51, 52, 53, 54, 55, 56, 57, 58, 59, 60, 61, 62, 63, 64, 65, 66, 67, 68, 69, 70, 71, 72, 73, 74, 75, 76, 77, 78, 79, 80, 81, 82, 83, 84, 85, 86, 87, 88, 89, 90, 91, 92, 93, 94, 95, 96, 97, 98, 99, 100, 101, 102, 103, 104, 105, 106, 107, 108, 109, 110, 111, 112, 113, 114, 115, 116, 117, 118, 119, 120, 121, 122, 123, 124, 125, 126, 127, 128, 129, 130, 131, 132, 4, 133, 134, 135, 136, 137, 138, 139, 140, 141, 142, 143, 144, 145, 146, 147, 148, 149, 150, 151, 152, 153, 154, 155, 156, 157, 158, 159, 160, 161, 162, 163, 164, 165, 166, 167, 168, 169, 170, 171, 172, 173, 174, 175, 176, 177, 178, 179, 180, 181, 182, 183, 184, 185, 186, 187, 188, 189, 190, 191, 192, 193, 194, 195, 196, 197, 198, 199, 200, 201, 202, 203, 204, 205, 206, 207, 208, 209, 210, 211, 212, 213, 214, 215, 216, 217, 218, 219, 220, 221, 222, 223, 224, 225, 226, 227, 228, 229, 230, 231, 232, 233, 234, 235, 236, 237, 238, 239, 240, 241, 242, 264, 265, 266, 247, 248, 249, 250, 251, 252, 253, 254, 255, 256, 257, 258, 259, 260, 261, 262, 263, 267, 268, 269, 270, 271, 272, 273, 274, 275, 276, 277, 278, 279, 280, 281, 282, 283, 284, 285, 286, 287, 288, 289, 290, 291, 292, 293] (by decide +kernel) (by decide +kernel)) (goodIn_sub (fun _ h => List.mem_cons_of_mem _ (List.mem_append_left _ (List.mem_append_right _ h))) (by decide +kernel))) (goodIn_sub (fun _ h => List.mem_cons_of_mem _ (List.mem_append_right _ h)) (by decide +kernel))
set_option maxRecDepth 20000 in
theorem gX18_guesses_X18_possible : GoodIn wsX18_guesses (wsV RX18 217 RX18 yX18_possible wsX18_possible) := goodIn_app (goodIn_of _ (by decide +kernel)) ggX18_guesses_X18_possible
set_option maxRecDepth 20000 in
theorem ggX18_guesses_Jx4a65c_size_8abf5 : GoodIn wsX18_guesses wsJx4a65c_size_8abf5 := goodIn_r _ [44, 45, 264, 265, 266] (by decide +kernel) (by decide +kernel)
set_option maxRecDepth 20000 in
theorem gX18_guesses_Jx4a65c_size_8abf5_f74Jx4a65c : GoodIn wsX18_guesses (va_wsF RX18 74 RJx4a65c ⟨"java/util/List", "size", "()I"⟩ yJx4a65c_size_8abf5 wsJx4a65c_size_8abf5) := goodIn_app (goodIn_of _ (by decide +kernel)) ggX18_guesses_Jx4a65c_size_8abf5
set_option maxRecDepth 20000 in
theorem ggX18_guesses_X18_fails : GoodIn wsX18_guesses wsX18_fails := goodIn_r _ [246, 1, 247, 248, 249, 250, 251, 252, 253, 254, 255, 256, 257, 258, 259, 260, 261, 262, 263] (by decide +kernel) (by decide +kernel)
set_option maxRecDepth 20000 in
theorem gX18_guesses_X18_fails : GoodIn wsX18_guesses (wsV RX18 88 RX18 yX18_fails wsX18_fails) := goodIn_app (goodIn_of _ (by decide +kernel)) ggX18_guesses_X18_fails
theorem dX18_guesses_0 : decode cX18_guesses 0 = .ok (.aload_n 0, 1) := by decide +kernel
theorem dX18_guesses_1 : decode cX18_guesses 1 = .ok (.iconst 0, 1) := by decide +kernel
theorem dX18_guesses_2 : decode cX18_guesses 2 = .ok (.putfield 67, 3) := by decide +kernel
theorem dX18_guesses_5 : decode cX18_guesses 5 = .ok (.iload_n 1, 1) := by decide +kernel
theorem dX18_guesses_6 : decode cX18_guesses 6 = .ok (.iload_n 2, 1) := by decide +kernel
theorem dX18_guesses_7 : decode cX18_guesses 7 = .ok (.invokestatic 124, 3) := by decide +kernel
theorem dX18_guesses_10 : decode cX18_guesses 10 = .ok (.ifCond .eq 21, 3) := by decide +kernel
theorem dX18_guesses_13 : decode cX18_guesses 13 = .ok (.aload_n 0, 1) := by decide +kernel
theorem dX18_guesses_14 : decode cX18_guesses 14 = .ok (.bipush 8, 2) := by decide +kernel
theorem dX18_guesses_16 : decode cX18_guesses 16 = .ok (.iload_n 2, 1) := by decide +kernel
theorem dX18_guesses_17 : decode cX18_guesses 17 = .ok (.imul, 1) := by decide +kernel
theorem dX18_guesses_18 : decode cX18_guesses 18 = .ok (.iload_n 1, 1) := by decide +kernel
theorem dX18_guesses_19 : decode cX18_guesses 19 = .ok (.iadd, 1) := by decide +kernel
theorem dX18_guesses_20 : decode cX18_guesses 20 = .ok (.invokevirtual 217, 3) := by decide +kernel
theorem dX18_guesses_23 : decode cX18_guesses 23 = .ok (.invokeinterface 74 1, 5) := by decide +kernel
theorem dX18_guesses_28 : decode cX18_guesses 28 = .ok (.goto 8, 3) := by decide +kernel
theorem dX18_guesses_31 : decode cX18_guesses 31 = .ok (.aload_n 0, 1) := by decide +kernel
theorem dX18_guesses_32 : decode cX18_guesses 32 = .ok (.iconst 1, 1) := by decide +kernel
theorem dX18_guesses_33 : decode cX18_guesses 33 = .ok (.invokevirtual 88, 3) := by decide +kernel
theorem dX18_guesses_36 : decode cX18_guesses 36 = .ok (.ireturn, 1) := by decide +kernel
set_option maxRecDepth 20000 in
theorem ggX18_guessAt_X18_isPlace : GoodIn wsX18_guessAt wsX18_isPlace := goodIn_r _ [6, 7, 8, 5, 9] (by decide +kernel) (by decide +kernel)
set_option maxRecDepth 20000 in
theorem gX18_guessAt_X18_isPlace : GoodIn wsX18_guessAt (va_wsS RX18 124 yX18_isPlace wsX18_isPlace) := goodIn_app (goodIn_of _ (by decide +kernel)) ggX18_guessAt_X18_isPlace
set_option maxRecDepth 20000 in
theorem ggX18_guessAt_X18_fails : GoodIn wsX18_guessAt wsX18_fails := goodIn_r _ [13, 1, 252, 253, 254, 255, 256, 257, 258, 259, 260, 261, 262, 263, 264, 265, 266, 267, 268] (by decide +kernel) (by decide +kernel)
set_option maxRecDepth 20000 in
theorem gX18_guessAt_X18_fails : GoodIn wsX18_guessAt (wsV RX18 88 RX18 yX18_fails wsX18_fails) := goodIn_app (goodIn_of _ (by decide +kernel)) ggX18_guessAt_X18_fails
set_option maxRecDepth 20000 in
theorem ggX18_guessAt_X18_possible : GoodIn wsX18_guessAt wsX18_possible := goodIn_ca (goodIn_ca (goodIn_r _ [17, 18, 19, 20, 21, 22, 23, 24, 25, 26, 27, 28, 29, 30, 31, 32, 33, 34, 35, 36, 37, 38, 39, 40, 41, 42, 43, 44, 45, 46, 47, 48, 49, 50, 51, 52, 53, 54, 55, 56, 57, 58, 59, 60, 61, 62, 63, 64, 65, 66, 67, 68, 69, 70, 71, 72, 73, 74, 75, 76, 77, 78, 79, 80, 81, 82, 83, 84, 85, 86, 87, 88, 89, 90, 91, 92, 93, 94, 95, 96, 97, 98, 99, 100, 101, 102, 103, 104, 105, 106, 107, 108, 109, 110, 111, 112, 113, 114, 115, 116, 117, 118, 119, 120, 121, 122, 123, 124, 125, 126, 127, 128, 129, 130, 131, 132, 133, 134, 135, 136, 137, 5, 138, 139, 140, 141, 142, 143, 144, 145, 146, 147, 148, 149, 150, 151, 152, 153, 154, 155, 156, 157, 158, 159, 160, 161, 162, 163, 164, 165, 166, 167, 168, 169, 170, 171, 172, 173, 174, 175, 176, 177, 178, 179, 180, 181, 182, 183, 184, 185, 186, 187, 188, 189, 190, 191, 192, 193, 194, 195, 196, 197, 198, 199, 200, 201, 202, 203, 204, 205, 206, 207, 208, 209, 210, 211, 212, 213, 214, 215, 216, 217, 218, 219, 220, 221, 222, 223, 224, 225, 226, 227, 228, 229, 230, 231, 232, 233, 234, 235, 236, 237, 238, 239, 240, 241, 242, 243, 244, 245, 246, 247, 269, 270, 271, 252, 253, 254, 255, 256, 257, 258, 259, 260, 261, 262, 263, 264, 265, 266, 267, 268, 272, 273, 274, 275, 276, 277, 278, 279, 280, 281, 282, 283, 284, 285, 286, 287, 288, 289, 290, 291, 292, 293, 294, 295, 296, 297, 298] (by decide +kernel) (by decide +kernel)) (goodIn_sub (fun _ h => List.mem_cons_of_mem _ (List.mem_append_left _ (List.mem_append_right _ h))) (by decide +kernel))) (goodIn_sub (fun _ h => List.mem_cons_of_mem _ (List.mem_append_right _ h)) (by decide +kernel))
set_option maxRecDepth 20000 in
theorem gX18_guessAt_X18_possible : GoodIn wsX18_guessAt (wsV RX18 217 RX18 yX18_possible wsX18_possible) := goodIn_app (goodIn_of _ (by decide +kernel)) ggX18_guessAt_X18_possible
set_option maxRecDepth 20000 in
theorem ggX18_guessAt_Jx4a65c_size_8abf5 : GoodIn wsX18_guessAt wsJx4a65c_size_8abf5 := goodIn_r _ [49, 50, 269, 270, 271] (by decide +kernel) (by decide +kernel)
set_option maxRecDepth 20000 in
theorem gX18_guessAt_Jx4a65c_size_8abf5_f74Jx4a65c : GoodIn wsX18_guessAt (va_wsF RX18 74 RJx4a65c ⟨"java/util/List", "size", "()I"⟩ yJx4a65c_size_8abf5 wsJx4a65c_size_8abf5) := goodIn_app (goodIn_of _ (by decide +kernel)) ggX18_guessAt_Jx4a65c_size_8abf5
set_option maxRecDepth 20000 in
theorem ggX18_guessAt_X18_in : GoodIn wsX18_guessAt wsX18_in := goodIn_r _ [9] (by decide +kernel) (by decide +kernel)
set_option maxRecDepth 20000 in
theorem gX18_guessAt_X18_in : GoodIn wsX18_guessAt (va_wsS RX18 70 yX18_in wsX18_in) := goodIn_app (goodIn_of _ (by decide +kernel)) ggX18_guessAt_X18_in
set_option maxRecDepth 20000 in
theorem ggX18_guessAt_Jx4a65c_get_915e3 : GoodIn wsX18_guessAt wsJx4a65c_get_915e3 := goodIn_r _ [54, 50, 55, 56, 57, 58, 59, 60, 61, 62, 63, 64, 65, 20, 66, 33, 269, 270, 271] (by decide +kernel) (by decide +kernel)
set_option maxRecDepth 20000 in
theorem gX18_guessAt_Jx4a65c_get_915e3_f148Jx4a65c : GoodIn wsX18_guessAt (va_wsF RX18 148 RJx4a65c ⟨"java/util/List", "get", "(I)Ljava/lang/Object;"⟩ yJx4a65c_get_915e3 wsJx4a65c_get_915e3) := goodIn_app (goodIn_of _ (by decide +kernel)) ggX18_guessAt_Jx4a65c_get_915e3
set_option maxRecDepth 20000 in
theorem ggX18_guessAt_J6_intValue_8abf5 : GoodIn wsX18_guessAt wsJ6_intValue_8abf5 := goodIn_r _ [251, 242, 298] (by decide +kernel) (by decide +kernel)
set_option maxRecDepth 20000 in
theorem gX18_guessAt_J6_intValue_8abf5 : GoodIn wsX18_guessAt (wsV RX18 221 RJ6 yJ6_intValue_8abf5 wsJ6_intValue_8abf5) := goodIn_app (goodIn_of _ (by decide +kernel)) ggX18_guessAt_J6_intValue_8abf5
theorem dX18_guessAt_0 : decode cX18_guessAt 0 = .ok (.aload_n 0, 1) := by decide +kernel
theorem dX18_guessAt_1 : decode cX18_guessAt 1 = .ok (.iconst 0, 1) := by decide +kernel
theorem dX18_guessAt_2 : decode cX18_guessAt 2 = .ok (.putfield 67, 3) := by decide +kernel
theorem dX18_guessAt_5 : decode cX18_guessAt 5 = .ok (.iload_n 1, 1) := by decide +kernel
theorem dX18_guessAt_6 : decode cX18_guessAt 6 = .ok (.iload_n 2, 1) := by decide +kernel
theorem dX18_guessAt_7 : decode cX18_guessAt 7 = .ok (.invokestatic 124, 3) := by decide +kernel
theorem dX18_guessAt_10 : decode cX18_guessAt 10 = .ok (.ifCond .ne 9, 3) := by decide +kernel
theorem dX18_guessAt_13 : decode cX18_guessAt 13 = .ok (.aload_n 0, 1) := by decide +kernel
theorem dX18_guessAt_14 : decode cX18_guessAt 14 = .ok (.iconst 1, 1) := by decide +kernel
theorem dX18_guessAt_15 : decode cX18_guessAt 15 = .ok (.invokevirtual 88, 3) := by decide +kernel
theorem dX18_guessAt_18 : decode cX18_guessAt 18 = .ok (.ireturn, 1) := by decide +kernel
theorem dX18_guessAt_19 : decode cX18_guessAt 19 = .ok (.aload_n 0, 1) := by decide +kernel
theorem dX18_guessAt_20 : decode cX18_guessAt 20 = .ok (.bipush 8, 2) := by decide +kernel
theorem dX18_guessAt_22 : decode cX18_guessAt 22 = .ok (.iload_n 2, 1) := by decide +kernel
theorem dX18_guessAt_23 : decode cX18_guessAt 23 = .ok (.imul, 1) := by decide +kernel
theorem dX18_guessAt_24 : decode cX18_guessAt 24 = .ok (.iload_n 1, 1) := by decide +kernel
theorem dX18_guessAt_25 : decode cX18_guessAt 25 = .ok (.iadd, 1) := by decide +kernel
theorem dX18_guessAt_26 : decode cX18_guessAt 26 = .ok (.invokevirtual 217, 3) := by decide +kernel
theorem dX18_guessAt_29 : decode cX18_guessAt 29 = .ok (.astore 5, 2) := by decide +kernel
theorem dX18_guessAt_31 : decode cX18_guessAt 31 = .ok (.iload_n 3, 1) := by decide +kernel
theorem dX18_guessAt_32 : decode cX18_guessAt 32 = .ok (.iconst 0, 1) := by decide +kernel
theorem dX18_guessAt_33 : decode cX18_guessAt 33 = .ok (.aload 5, 2) := by decide +kernel
theorem dX18_guessAt_35 : decode cX18_guessAt 35 = .ok (.invokeinterface 74 1, 5) := by decide +kernel
theorem dX18_guessAt_40 : decode cX18_guessAt 40 = .ok (.iconst 1, 1) := by decide +kernel
theorem dX18_guessAt_41 : decode cX18_guessAt 41 = .ok (.isub, 1) := by decide +kernel
theorem dX18_guessAt_42 : decode cX18_guessAt 42 = .ok (.invokestatic 70, 3) := by decide +kernel
theorem dX18_guessAt_45 : decode cX18_guessAt 45 = .ok (.ifCond .eq 13, 3) := by decide +kernel
theorem dX18_guessAt_48 : decode cX18_guessAt 48 = .ok (.iload 4, 2) := by decide +kernel
theorem dX18_guessAt_50 : decode cX18_guessAt 50 = .ok (.iconst 0, 1) := by decide +kernel
theorem dX18_guessAt_51 : decode cX18_guessAt 51 = .ok (.iconst 2, 1) := by decide +kernel
theorem dX18_guessAt_52 : decode cX18_guessAt 52 = .ok (.invokestatic 70, 3) := by decide +kernel
theorem dX18_guessAt_55 : decode cX18_guessAt 55 = .ok (.ifCond .ne 9, 3) := by decide +kernel
theorem dX18_guessAt_58 : decode cX18_guessAt 58 = .ok (.aload_n 0, 1) := by decide +kernel
theorem dX18_guessAt_59 : decode cX18_guessAt 59 = .ok (.iconst 2, 1) := by decide +kernel
theorem dX18_guessAt_60 : decode cX18_guessAt 60 = .ok (.invokevirtual 88, 3) := by decide +kernel
theorem dX18_guessAt_63 : decode cX18_guessAt 63 = .ok (.ireturn, 1) := by decide +kernel
theorem dX18_guessAt_64 : decode cX18_guessAt 64 = .ok (.aload 5, 2) := by decide +kernel
theorem dX18_guessAt_66 : decode cX18_guessAt 66 = .ok (.iload_n 3, 1) := by decide +kernel
theorem dX18_guessAt_67 : decode cX18_guessAt 67 = .ok (.invokeinterface 148 2, 5) := by decide +kernel
theorem dX18_guessAt_72 : decode cX18_guessAt 72 = .ok (.checkcast 212, 3) := by decide +kernel
theorem dX18_guessAt_75 : decode cX18_guessAt 75 = .ok (.invokevirtual 221, 3) := by decide +kernel
theorem dX18_guessAt_78 : decode cX18_guessAt 78 = .ok (.istore 6, 2) := by decide +kernel
theorem dX18_guessAt_80 : decode cX18_guessAt 80 = .ok (.iload 4, 2) := by decide +kernel
theorem dX18_guessAt_82 : decode cX18_guessAt 82 = .ok (.ifCond .ne 12, 3) := by decide +kernel
theorem dX18_guessAt_85 : decode cX18_guessAt 85 = .ok (.iload 6, 2) := by decide +kernel
theorem dX18_guessAt_87 : decode cX18_guessAt 87 = .ok (.sipush 196, 3) := by decide +kernel
theorem dX18_guessAt_90 : decode cX18_guessAt 90 = .ok (.idiv, 1) := by decide +kernel
theorem dX18_guessAt_91 : decode cX18_guessAt 91 = .ok (.goto 25, 3) := by decide +kernel
theorem dX18_guessAt_94 : decode cX18_guessAt 94 = .ok (.iload 4, 2) := by decide +kernel
theorem dX18_guessAt_96 : decode cX18_guessAt 96 = .ok (.iconst 1, 1) := by decide +kernel
theorem dX18_guessAt_97 : decode cX18_guessAt 97 = .ok (.if_icmp .ne 14, 3) := by decide +kernel
theorem dX18_guessAt_100 : decode cX18_guessAt 100 = .ok (.iload 6, 2) := by decide +kernel
theorem dX18_guessAt_102 : decode cX18_guessAt 102 = .ok (.bipush 14, 2) := by decide +kernel
theorem dX18_guessAt_104 : decode cX18_guessAt 104 = .ok (.idiv, 1) := by decide +kernel
theorem dX18_guessAt_105 : decode cX18_guessAt 105 = .ok (.bipush 14, 2) := by decide +kernel
theorem dX18_guessAt_107 : decode cX18_guessAt 107 = .ok (.irem, 1) := by decide +kernel
theorem dX18_guessAt_108 : decode cX18_guessAt 108 = .ok (.goto 8, 3) := by decide +kernel
theorem dX18_guessAt_111 : decode cX18_guessAt 111 = .ok (.iload 6, 2) := by decide +kernel
theorem dX18_guessAt_113 : decode cX18_guessAt 113 = .ok (.bipush 14, 2) := by decide +kernel
theorem dX18_guessAt_115 : decode cX18_guessAt 115 = .ok (.irem, 1) := by decide +kernel
theorem dX18_guessAt_116 : decode cX18_guessAt 116 = .ok (.istore 7, 2) := by decide +kernel
theorem dX18_guessAt_118 : decode cX18_guessAt 118 = .ok (.iload 7, 2) := by decide +kernel
theorem dX18_guessAt_120 : decode cX18_guessAt 120 = .ok (.bipush 13, 2) := by decide +kernel
theorem dX18_guessAt_122 : decode cX18_guessAt 122 = .ok (.if_icmp .ne 11, 3) := by decide +kernel
theorem dX18_guessAt_125 : decode cX18_guessAt 125 = .ok (.aload_n 0, 1) := by decide +kernel
theorem dX18_guessAt_126 : decode cX18_guessAt 126 = .ok (.iconst 2, 1) := by decide +kernel
theorem dX18_guessAt_127 : decode cX18_guessAt 127 = .ok (.invokevirtual 88, 3) := by decide +kernel
theorem dX18_guessAt_130 : decode cX18_guessAt 130 = .ok (.goto 5, 3) := by decide +kernel
theorem dX18_guessAt_133 : decode cX18_guessAt 133 = .ok (.iload 7, 2) := by decide +kernel
theorem dX18_guessAt_135 : decode cX18_guessAt 135 = .ok (.ireturn, 1) := by decide +kernel
set_option maxRecDepth 20000 in
theorem ggX18_isPossible_X18_isPlace : GoodIn wsX18_isPossible wsX18_isPlace := goodIn_r _ [6, 7, 8, 5, 9] (by decide +kernel) (by decide +kernel)
set_option maxRecDepth 20000 in
theorem gX18_isPossible_X18_isPlace : GoodIn wsX18_isPossible (va_wsS RX18 124 yX18_isPlace wsX18_isPlace) := goodIn_app (goodIn_of _ (by decide +kernel)) ggX18_isPossible_X18_isPlace
set_option maxRecDepth 20000 in
theorem ggX18_isPossible_X18_failsBoolean : GoodIn wsX18_isPossible wsX18_failsBoolean := goodIn_r _ [13, 1, 139, 140, 141, 142, 143, 144, 145, 146, 147, 148, 149, 150, 151, 152, 153, 154, 155] (by decide +kernel) (by decide +kernel)
set_option maxRecDepth 20000 in
theorem gX18_isPossible_X18_failsBoolean : GoodIn wsX18_isPossible (wsV RX18 104 RX18 yX18_failsBoolean wsX18_failsBoolean) := goodIn_app (goodIn_of _ (by decide +kernel)) ggX18_isPossible_X18_failsBoolean
set_option maxRecDepth 20000 in
theorem ggX18_isPossible_X18_isAlike : GoodIn wsX18_isPossible wsX18_isAlike := goodIn_ca (goodIn_r _ [17, 18, 19, 20, 21, 22, 23, 24, 25, 26, 27, 28, 29, 30, 31, 32, 33, 34, 35, 36, 37, 38, 39, 40, 41, 42, 43, 44, 45, 46, 47, 48, 49, 50, 51, 52, 53, 54, 55, 56, 57, 58, 59, 60, 61, 62, 63, 64, 65, 66, 67, 68, 69, 70, 71, 72, 73, 74, 75, 76, 77, 78, 79, 80, 81, 82, 83, 84, 85, 86, 87, 88, 89, 90, 91, 92, 93, 94, 95, 96, 97, 98, 99, 100, 101, 102, 103, 104, 105, 106, 107, 108, 109, 110, 111, 112, 113, 114, 115, 116, 117, 118, 119, 120, 121, 122, 123, 124, 125, 126, 127, 128, 129, 130, 131, 132, 133, 134, 135, 136, 137, 138, 139, 140, 141, 142, 143, 144, 145, 146, 147, 148, 149, 150, 151, 152, 153, 154, 155, 162, 163, 164, 165, 166, 167, 168, 169, 170, 171, 172, 173, 174, 175, 176, 177, 178, 179, 180, 181, 182, 183, 184, 185, 186, 187, 188, 189, 190] (by decide +kernel) (by decide +kernel)) (goodIn_sub (fun _ h => List.mem_cons_of_mem _ (List.mem_append_right _ h)) (by decide +kernel))
set_option maxRecDepth 20000 in
theorem gX18_isPossible_X18_isAlike : GoodIn wsX18_isPossible (wsV RX18 207 RX18 yX18_isAlike wsX18_isAlike) := goodIn_app (goodIn_of _ (by decide +kernel)) ggX18_isPossible_X18_isAlike
theorem dX18_isPossible_0 : decode cX18_isPossible 0 = .ok (.iload_n 1, 1) := by decide +kernel
theorem dX18_isPossible_1 : decode cX18_isPossible 1 = .ok (.iload_n 2, 1) := by decide +kernel
theorem dX18_isPossible_2 : decode cX18_isPossible 2 = .ok (.invokestatic 124, 3) := by decide +kernel
theorem dX18_isPossible_5 : decode cX18_isPossible 5 = .ok (.ifCond .ne 9, 3) := by decide +kernel
theorem dX18_isPossible_8 : decode cX18_isPossible 8 = .ok (.aload_n 0, 1) := by decide +kernel
theorem dX18_isPossible_9 : decode cX18_isPossible 9 = .ok (.iconst 1, 1) := by decide +kernel
theorem dX18_isPossible_10 : decode cX18_isPossible 10 = .ok (.invokevirtual 104, 3) := by decide +kernel
theorem dX18_isPossible_13 : decode cX18_isPossible 13 = .ok (.ireturn, 1) := by decide +kernel
theorem dX18_isPossible_14 : decode cX18_isPossible 14 = .ok (.aload_n 0, 1) := by decide +kernel
theorem dX18_isPossible_15 : decode cX18_isPossible 15 = .ok (.iconst 0, 1) := by decide +kernel
theorem dX18_isPossible_16 : decode cX18_isPossible 16 = .ok (.putfield 67, 3) := by decide +kernel
theorem dX18_isPossible_19 : decode cX18_isPossible 19 = .ok (.aload_n 0, 1) := by decide +kernel
theorem dX18_isPossible_20 : decode cX18_isPossible 20 = .ok (.aload_n 0, 1) := by decide +kernel
theorem dX18_isPossible_21 : decode cX18_isPossible 21 = .ok (.getfield 25, 3) := by decide +kernel
theorem dX18_isPossible_24 : decode cX18_isPossible 24 = .ok (.getfield 137, 3) := by decide +kernel
theorem dX18_isPossible_27 : decode cX18_isPossible 27 = .ok (.bipush 8, 2) := by decide +kernel
theorem dX18_isPossible_29 : decode cX18_isPossible 29 = .ok (.iload_n 2, 1) := by decide +kernel
theorem dX18_isPossible_30 : decode cX18_isPossible 30 = .ok (.imul, 1) := by decide +kernel
theorem dX18_isPossible_31 : decode cX18_isPossible 31 = .ok (.iload_n 1, 1) := by decide +kernel
theorem dX18_isPossible_32 : decode cX18_isPossible 32 = .ok (.iadd, 1) := by decide +kernel
theorem dX18_isPossible_33 : decode cX18_isPossible 33 = .ok (.aaload, 1) := by decide +kernel
theorem dX18_isPossible_34 : decode cX18_isPossible 34 = .ok (.bipush 8, 2) := by decide +kernel
theorem dX18_isPossible_36 : decode cX18_isPossible 36 = .ok (.iload_n 2, 1) := by decide +kernel
theorem dX18_isPossible_37 : decode cX18_isPossible 37 = .ok (.imul, 1) := by decide +kernel
theorem dX18_isPossible_38 : decode cX18_isPossible 38 = .ok (.iload_n 1, 1) := by decide +kernel
theorem dX18_isPossible_39 : decode cX18_isPossible 39 = .ok (.iadd, 1) := by decide +kernel
theorem dX18_isPossible_40 : decode cX18_isPossible 40 = .ok (.invokevirtual 207, 3) := by decide +kernel
theorem dX18_isPossible_43 : decode cX18_isPossible 43 = .ok (.ireturn, 1) := by decide +kernel
set_option maxRecDepth 20000 in
theorem ggX18_original_X18_in : GoodIn wsX18_original wsX18_in := goodIn_r _ [6] (by decide +kernel) (by decide +kernel)
set_option maxRecDepth 20000 in
theorem gX18_original_X18_in : GoodIn wsX18_original (va_wsS RX18 70 yX18_in wsX18_in) := goodIn_app (goodIn_of _ (by decide +kernel)) ggX18_original_X18_in
set_option maxRecDepth 20000 in
theorem ggX18_original_X18_fails : GoodIn wsX18_original wsX18_fails := goodIn_r _ [10, 1, 11, 12, 13, 14, 15, 16, 17, 18, 19, 20, 21, 22, 23, 24, 25, 26, 27] (by decide +kernel) (by decide +kernel)
set_option maxRecDepth 20000 in
theorem gX18_original_X18_fails : GoodIn wsX18_original (wsV RX18 88 RX18 yX18_fails wsX18_fails) := goodIn_app (goodIn_of _ (by decide +kernel)) ggX18_original_X18_fails
theorem dX18_original_0 : decode cX18_original 0 = .ok (.aload_n 0, 1) := by decide +kernel
theorem dX18_original_1 : decode cX18_original 1 = .ok (.iconst 0, 1) := by decide +kernel
theorem dX18_original_2 : decode cX18_original 2 = .ok (.putfield 67, 3) := by decide +kernel
theorem dX18_original_5 : decode cX18_original 5 = .ok (.iload_n 1, 1) := by decide +kernel
theorem dX18_original_6 : decode cX18_original 6 = .ok (.iconst 0, 1) := by decide +kernel
theorem dX18_original_7 : decode cX18_original 7 = .ok (.sipush 9999, 3) := by decide +kernel
theorem dX18_original_10 : decode cX18_original 10 = .ok (.invokestatic 70, 3) := by decide +kernel
theorem dX18_original_13 : decode cX18_original 13 = .ok (.ifCond .ne 9, 3) := by decide +kernel
theorem dX18_original_16 : decode cX18_original 16 = .ok (.aload_n 0, 1) := by decide +kernel
theorem dX18_original_17 : decode cX18_original 17 = .ok (.iconst 1, 1) := by decide +kernel
theorem dX18_original_18 : decode cX18_original 18 = .ok (.invokevirtual 88, 3) := by decide +kernel
theorem dX18_original_21 : decode cX18_original 21 = .ok (.ireturn, 1) := by decide +kernel
theorem dX18_original_22 : decode cX18_original 22 = .ok (.aload_n 0, 1) := by decide +kernel
theorem dX18_original_23 : decode cX18_original 23 = .ok (.getfield 46, 3) := by decide +kernel
theorem dX18_original_26 : decode cX18_original 26 = .ok (.istore_n 2, 1) := by decide +kernel
theorem dX18_original_27 : decode cX18_original 27 = .ok (.aload_n 0, 1) := by decide +kernel
theorem dX18_original_28 : decode cX18_original 28 = .ok (.iload_n 1, 1) := by decide +kernel
theorem dX18_original_29 : decode cX18_original 29 = .ok (.putfield 46, 3) := by decide +kernel
theorem dX18_original_32 : decode cX18_original 32 = .ok (.iload_n 2, 1) := by decide +kernel
theorem dX18_original_33 : decode cX18_original 33 = .ok (.ireturn, 1) := by decide +kernel
set_option maxRecDepth 20000 in
theorem ggX18_tooYoung_X18_in : GoodIn wsX18_tooYoung wsX18_in := goodIn_r _ [12] (by decide +kernel) (by decide +kernel)
set_option maxRecDepth 20000 in
theorem gX18_tooYoung_X18_in : GoodIn wsX18_tooYoung (va_wsS RX18 70 yX18_in wsX18_in) := goodIn_app (goodIn_of _ (by decide +kernel)) ggX18_tooYoung_X18_in
set_option maxRecDepth 20000 in
theorem ggX18_tooYoung_X18_fails : GoodIn wsX18_tooYoung wsX18_fails := goodIn_r _ [16, 1, 50, 51, 52, 53, 54, 55, 56, 57, 58, 59, 60, 61, 62, 63, 64, 65, 66] (by decide +kernel) (by decide +kernel)
set_option maxRecDepth 20000 in
theorem gX18_tooYoung_X18_fails : GoodIn wsX18_tooYoung (wsV RX18 88 RX18 yX18_fails wsX18_fails) := goodIn_app (goodIn_of _ (by decide +kernel)) ggX18_tooYoung_X18_fails
set_option maxRecDepth 20000 in
theorem ggX18_tooYoung_Jx4a65c_iterator_32c93 : GoodIn wsX18_tooYoung wsJx4a65c_iterator_32c93 := goodIn_r _ [21, 22, 23, 24, 25, 26, 27, 28, 29, 30, 31, 32, 33, 34, 35, 91, 92, 93, 94, 95, 96, 97] (by decide +kernel) (by decide +kernel)
set_option maxRecDepth 20000 in
theorem gX18_tooYoung_Jx4a65c_iterator_32c93_f224Jx4a65c : GoodIn wsX18_tooYoung (va_wsF RX18 224 RJx4a65c ⟨"java/util/List", "iterator", "()Ljava/util/Iterator;"⟩ yJx4a65c_iterator_32c93 wsJx4a65c_iterator_32c93) := goodIn_app (goodIn_of _ (by decide +kernel)) ggX18_tooYoung_Jx4a65c_iterator_32c93
set_option maxRecDepth 20000 in
theorem ggX18_tooYoung_Jx35411_hasNext_aae02 : GoodIn wsX18_tooYoung wsJx35411_hasNext_aae02 := goodIn_r _ [39, 40, 28, 91, 92, 93, 94, 95, 96, 97] (by decide +kernel) (by decide +kernel)
set_option maxRecDepth 20000 in
theorem gX18_tooYoung_Jx35411_hasNext_aae02_f228Jx35411 : GoodIn wsX18_tooYoung (va_wsF RX18 228 RJx35411 ⟨"java/util/Iterator", "hasNext", "()Z"⟩ yJx35411_hasNext_aae02 wsJx35411_hasNext_aae02) := goodIn_app (goodIn_of _ (by decide +kernel)) ggX18_tooYoung_Jx35411_hasNext_aae02
set_option maxRecDepth 20000 in
theorem ggX18_tooYoung_Jx35411_next_0502b : GoodIn wsX18_tooYoung wsJx35411_next_0502b := goodIn_r _ [44, 40, 28, 45, 32, 46, 47, 48, 24, 49, 33, 34, 35, 91, 92, 93, 94, 95, 96, 97] (by decide +kernel) (by decide +kernel)
set_option maxRecDepth 20000 in
theorem gX18_tooYoung_Jx35411_next_0502b_f233Jx35411 : GoodIn wsX18_tooYoung (va_wsF RX18 233 RJx35411 ⟨"java/util/Iterator", "next", "()Ljava/lang/Object;"⟩ yJx35411_next_0502b wsJx35411_next_0502b) := goodIn_app (goodIn_of _ (by decide +kernel)) ggX18_tooYoung_Jx35411_next_0502b
theorem dX18_tooYoung_0 : decode cX18_tooYoung 0 = .ok (.aload_n 0, 1) := by decide +kernel
theorem dX18_tooYoung_1 : decode cX18_tooYoung 1 = .ok (.iconst 0, 1) := by decide +kernel
theorem dX18_tooYoung_2 : decode cX18_tooYoung 2 = .ok (.putfield 67, 3) := by decide +kernel
theorem dX18_tooYoung_5 : decode cX18_tooYoung 5 = .ok (.iload_n 1, 1) := by decide +kernel
theorem dX18_tooYoung_6 : decode cX18_tooYoung 6 = .ok (.iconst 0, 1) := by decide +kernel
theorem dX18_tooYoung_7 : decode cX18_tooYoung 7 = .ok (.sipush 9999, 3) := by decide +kernel
theorem dX18_tooYoung_10 : decode cX18_tooYoung 10 = .ok (.invokestatic 70, 3) := by decide +kernel
theorem dX18_tooYoung_13 : decode cX18_tooYoung 13 = .ok (.ifCond .ne 9, 3) := by decide +kernel
theorem dX18_tooYoung_16 : decode cX18_tooYoung 16 = .ok (.aload_n 0, 1) := by decide +kernel
theorem dX18_tooYoung_17 : decode cX18_tooYoung 17 = .ok (.iconst 1, 1) := by decide +kernel
theorem dX18_tooYoung_18 : decode cX18_tooYoung 18 = .ok (.invokevirtual 88, 3) := by decide +kernel
theorem dX18_tooYoung_21 : decode cX18_tooYoung 21 = .ok (.ireturn, 1) := by decide +kernel
theorem dX18_tooYoung_22 : decode cX18_tooYoung 22 = .ok (.bipush 99, 2) := by decide +kernel
theorem dX18_tooYoung_24 : decode cX18_tooYoung 24 = .ok (.istore_n 2, 1) := by decide +kernel
theorem dX18_tooYoung_25 : decode cX18_tooYoung 25 = .ok (.aload_n 0, 1) := by decide +kernel
theorem dX18_tooYoung_26 : decode cX18_tooYoung 26 = .ok (.getfield 25, 3) := by decide +kernel
theorem dX18_tooYoung_29 : decode cX18_tooYoung 29 = .ok (.getfield 137, 3) := by decide +kernel
theorem dX18_tooYoung_32 : decode cX18_tooYoung 32 = .ok (.astore_n 3, 1) := by decide +kernel
theorem dX18_tooYoung_33 : decode cX18_tooYoung 33 = .ok (.aload_n 3, 1) := by decide +kernel
theorem dX18_tooYoung_34 : decode cX18_tooYoung 34 = .ok (.arraylength, 1) := by decide +kernel
theorem dX18_tooYoung_35 : decode cX18_tooYoung 35 = .ok (.istore 4, 2) := by decide +kernel
theorem dX18_tooYoung_37 : decode cX18_tooYoung 37 = .ok (.iconst 0, 1) := by decide +kernel
theorem dX18_tooYoung_38 : decode cX18_tooYoung 38 = .ok (.istore 5, 2) := by decide +kernel
theorem dX18_tooYoung_40 : decode cX18_tooYoung 40 = .ok (.iload 5, 2) := by decide +kernel
theorem dX18_tooYoung_42 : decode cX18_tooYoung 42 = .ok (.iload 4, 2) := by decide +kernel
theorem dX18_tooYoung_44 : decode cX18_tooYoung 44 = .ok (.if_icmp .ge 93, 3) := by decide +kernel
theorem dX18_tooYoung_47 : decode cX18_tooYoung 47 = .ok (.aload_n 3, 1) := by decide +kernel
theorem dX18_tooYoung_48 : decode cX18_tooYoung 48 = .ok (.iload 5, 2) := by decide +kernel
theorem dX18_tooYoung_50 : decode cX18_tooYoung 50 = .ok (.aaload, 1) := by decide +kernel
theorem dX18_tooYoung_51 : decode cX18_tooYoung 51 = .ok (.astore 6, 2) := by decide +kernel
theorem dX18_tooYoung_53 : decode cX18_tooYoung 53 = .ok (.aload 6, 2) := by decide +kernel
theorem dX18_tooYoung_55 : decode cX18_tooYoung 55 = .ok (.getfield 141, 3) := by decide +kernel
theorem dX18_tooYoung_58 : decode cX18_tooYoung 58 = .ok (.invokeinterface 224 1, 5) := by decide +kernel
theorem dX18_tooYoung_63 : decode cX18_tooYoung 63 = .ok (.astore 7, 2) := by decide +kernel
theorem dX18_tooYoung_65 : decode cX18_tooYoung 65 = .ok (.aload 7, 2) := by decide +kernel
theorem dX18_tooYoung_67 : decode cX18_tooYoung 67 = .ok (.invokeinterface 228 1, 5) := by decide +kernel
theorem dX18_tooYoung_72 : decode cX18_tooYoung 72 = .ok (.ifCond .eq 59, 3) := by decide +kernel
theorem dX18_tooYoung_75 : decode cX18_tooYoung 75 = .ok (.aload 7, 2) := by decide +kernel
theorem dX18_tooYoung_77 : decode cX18_tooYoung 77 = .ok (.invokeinterface 233 1, 5) := by decide +kernel
theorem dX18_tooYoung_82 : decode cX18_tooYoung 82 = .ok (.checkcast 152, 3) := by decide +kernel
theorem dX18_tooYoung_85 : decode cX18_tooYoung 85 = .ok (.astore 8, 2) := by decide +kernel
theorem dX18_tooYoung_87 : decode cX18_tooYoung 87 = .ok (.aload 8, 2) := by decide +kernel
theorem dX18_tooYoung_89 : decode cX18_tooYoung 89 = .ok (.getfield 164, 3) := by decide +kernel
theorem dX18_tooYoung_92 : decode cX18_tooYoung 92 = .ok (.aload_n 0, 1) := by decide +kernel
theorem dX18_tooYoung_93 : decode cX18_tooYoung 93 = .ok (.getfield 46, 3) := by decide +kernel
theorem dX18_tooYoung_96 : decode cX18_tooYoung 96 = .ok (.if_icmp .gt 30, 3) := by decide +kernel
theorem dX18_tooYoung_99 : decode cX18_tooYoung 99 = .ok (.aload 8, 2) := by decide +kernel
theorem dX18_tooYoung_101 : decode cX18_tooYoung 101 = .ok (.getfield 154, 3) := by decide +kernel
theorem dX18_tooYoung_104 : decode cX18_tooYoung 104 = .ok (.getfield 237, 3) := by decide +kernel
theorem dX18_tooYoung_107 : decode cX18_tooYoung 107 = .ok (.iload_n 1, 1) := by decide +kernel
theorem dX18_tooYoung_108 : decode cX18_tooYoung 108 = .ok (.if_icmp .le 18, 3) := by decide +kernel
theorem dX18_tooYoung_111 : decode cX18_tooYoung 111 = .ok (.iload_n 2, 1) := by decide +kernel
theorem dX18_tooYoung_112 : decode cX18_tooYoung 112 = .ok (.aload 8, 2) := by decide +kernel
theorem dX18_tooYoung_114 : decode cX18_tooYoung 114 = .ok (.getfield 154, 3) := by decide +kernel
theorem dX18_tooYoung_117 : decode cX18_tooYoung 117 = .ok (.getfield 158, 3) := by decide +kernel
theorem dX18_tooYoung_120 : decode cX18_tooYoung 120 = .ok (.invokestatic 238, 3) := by decide +kernel
theorem dX18_tooYoung_123 : decode cX18_tooYoung 123 = .ok (.goto 4, 3) := by decide +kernel
theorem dX18_tooYoung_126 : decode cX18_tooYoung 126 = .ok (.iload_n 2, 1) := by decide +kernel
theorem dX18_tooYoung_127 : decode cX18_tooYoung 127 = .ok (.istore_n 2, 1) := by decide +kernel
theorem dX18_tooYoung_128 : decode cX18_tooYoung 128 = .ok (.goto (-63), 3) := by decide +kernel
theorem dX18_tooYoung_131 : decode cX18_tooYoung 131 = .ok (.iinc 5 1, 3) := by decide +kernel
theorem dX18_tooYoung_134 : decode cX18_tooYoung 134 = .ok (.goto (-94), 3) := by decide +kernel
theorem dX18_tooYoung_137 : decode cX18_tooYoung 137 = .ok (.iload_n 2, 1) := by decide +kernel
theorem dX18_tooYoung_138 : decode cX18_tooYoung 138 = .ok (.bipush 99, 2) := by decide +kernel
theorem dX18_tooYoung_140 : decode cX18_tooYoung 140 = .ok (.if_icmp .ne 11, 3) := by decide +kernel
theorem dX18_tooYoung_143 : decode cX18_tooYoung 143 = .ok (.aload_n 0, 1) := by decide +kernel
theorem dX18_tooYoung_144 : decode cX18_tooYoung 144 = .ok (.iconst 2, 1) := by decide +kernel
theorem dX18_tooYoung_145 : decode cX18_tooYoung 145 = .ok (.invokevirtual 88, 3) := by decide +kernel
theorem dX18_tooYoung_148 : decode cX18_tooYoung 148 = .ok (.goto 4, 3) := by decide +kernel
theorem dX18_tooYoung_151 : decode cX18_tooYoung 151 = .ok (.iload_n 2, 1) := by decide +kernel
theorem dX18_tooYoung_152 : decode cX18_tooYoung 152 = .ok (.ireturn, 1) := by decide +kernel
set_option maxRecDepth 20000 in
theorem ggX18_ring_X18_in : GoodIn wsX18_ring wsX18_in := goodIn_r _ [7] (by decide +kernel) (by decide +kernel)
set_option maxRecDepth 20000 in
theorem gX18_ring_X18_in : GoodIn wsX18_ring (va_wsS RX18 70 yX18_in wsX18_in) := goodIn_app (goodIn_of _ (by decide +kernel)) ggX18_ring_X18_in
set_option maxRecDepth 20000 in
theorem ggX18_ring_X18_fails : GoodIn wsX18_ring wsX18_fails := goodIn_r _ [11, 1, 91, 92, 93, 94, 95, 96, 97, 98, 99, 100, 101, 102, 103, 104, 105, 106, 107] (by decide +kernel) (by decide +kernel)
set_option maxRecDepth 20000 in
theorem gX18_ring_X18_fails : GoodIn wsX18_ring (wsV RX18 88 RX18 yX18_fails wsX18_fails) := goodIn_app (goodIn_of _ (by decide +kernel)) ggX18_ring_X18_fails
set_option maxRecDepth 20000 in
theorem ggX18_ring_Jx4a65c_size_8abf5 : GoodIn wsX18_ring wsJx4a65c_size_8abf5 := goodIn_r _ [16, 17, 108, 109, 110] (by decide +kernel) (by decide +kernel)
set_option maxRecDepth 20000 in
theorem gX18_ring_Jx4a65c_size_8abf5_f74Jx4a65c : GoodIn wsX18_ring (va_wsF RX18 74 RJx4a65c ⟨"java/util/List", "size", "()I"⟩ yJx4a65c_size_8abf5 wsJx4a65c_size_8abf5) := goodIn_app (goodIn_of _ (by decide +kernel)) ggX18_ring_Jx4a65c_size_8abf5
set_option maxRecDepth 20000 in
theorem ggX18_ring_J6_valueOf_2dffe : GoodIn wsX18_ring wsJ6_valueOf_2dffe := goodIn_r _ [21, 22, 23, 24, 25, 20, 26, 27, 28, 29, 30, 31, 32, 33, 34, 35, 36, 111] (by decide +kernel) (by decide +kernel)
set_option maxRecDepth 20000 in
theorem gX18_ring_J6_valueOf_2dffe : GoodIn wsX18_ring (va_wsS RX18 211 yJ6_valueOf_2dffe wsJ6_valueOf_2dffe) := goodIn_app (goodIn_of _ (by decide +kernel)) ggX18_ring_J6_valueOf_2dffe
set_option maxRecDepth 20000 in
theorem ggX18_ring_Jx4a65c_add_9ea2d : GoodIn wsX18_ring wsJx4a65c_add_9ea2d := goodIn_r _ [40, 41, 42, 43, 17, 44, 45, 46, 15, 47, 48, 49, 50, 51, 52, 53, 54, 55, 56, 57, 58, 59, 60, 61, 62, 63, 64, 65, 66, 67, 68, 69, 70, 71, 72, 73, 74, 75, 76, 77, 78, 79, 80, 81, 82, 83, 84, 85, 86, 87, 88, 89, 90, 108, 109, 110] (by decide +kernel) (by decide +kernel)
set_option maxRecDepth 20000 in
theorem gX18_ring_Jx4a65c_add_9ea2d_f96Jx4a65c : GoodIn wsX18_ring (va_wsF RX18 96 RJx4a65c ⟨"java/util/List", "add", "(Ljava/lang/Object;)Z"⟩ yJx4a65c_add_9ea2d wsJx4a65c_add_9ea2d) := goodIn_app (goodIn_of _ (by decide +kernel)) ggX18_ring_Jx4a65c_add_9ea2d
theorem dX18_ring_0 : decode cX18_ring 0 = .ok (.aload_n 0, 1) := by decide +kernel
theorem dX18_ring_1 : decode cX18_ring 1 = .ok (.iconst 0, 1) := by decide +kernel
theorem dX18_ring_2 : decode cX18_ring 2 = .ok (.putfield 67, 3) := by decide +kernel
theorem dX18_ring_5 : decode cX18_ring 5 = .ok (.iload_n 1, 1) := by decide +kernel
theorem dX18_ring_6 : decode cX18_ring 6 = .ok (.iconst 1, 1) := by decide +kernel
theorem dX18_ring_7 : decode cX18_ring 7 = .ok (.bipush 99, 2) := by decide +kernel
theorem dX18_ring_9 : decode cX18_ring 9 = .ok (.invokestatic 70, 3) := by decide +kernel
theorem dX18_ring_12 : decode cX18_ring 12 = .ok (.ifCond .ne 9, 3) := by decide +kernel
theorem dX18_ring_15 : decode cX18_ring 15 = .ok (.aload_n 0, 1) := by decide +kernel
theorem dX18_ring_16 : decode cX18_ring 16 = .ok (.iconst 1, 1) := by decide +kernel
theorem dX18_ring_17 : decode cX18_ring 17 = .ok (.invokevirtual 88, 3) := by decide +kernel
theorem dX18_ring_20 : decode cX18_ring 20 = .ok (.ireturn, 1) := by decide +kernel
theorem dX18_ring_21 : decode cX18_ring 21 = .ok (.iload_n 2, 1) := by decide +kernel
theorem dX18_ring_22 : decode cX18_ring 22 = .ok (.ifCond .eq 10, 3) := by decide +kernel
theorem dX18_ring_25 : decode cX18_ring 25 = .ok (.aload_n 0, 1) := by decide +kernel
theorem dX18_ring_26 : decode cX18_ring 26 = .ok (.getfield 52, 3) := by decide +kernel
theorem dX18_ring_29 : decode cX18_ring 29 = .ok (.goto 7, 3) := by decide +kernel
theorem dX18_ring_32 : decode cX18_ring 32 = .ok (.aload_n 0, 1) := by decide +kernel
theorem dX18_ring_33 : decode cX18_ring 33 = .ok (.getfield 49, 3) := by decide +kernel
theorem dX18_ring_36 : decode cX18_ring 36 = .ok (.astore_n 3, 1) := by decide +kernel
theorem dX18_ring_37 : decode cX18_ring 37 = .ok (.aload_n 3, 1) := by decide +kernel
theorem dX18_ring_38 : decode cX18_ring 38 = .ok (.invokeinterface 74 1, 5) := by decide +kernel
theorem dX18_ring_43 : decode cX18_ring 43 = .ok (.iload_n 2, 1) := by decide +kernel
theorem dX18_ring_44 : decode cX18_ring 44 = .ok (.ifCond .eq 8, 3) := by decide +kernel
theorem dX18_ring_47 : decode cX18_ring 47 = .ok (.bipush 60, 2) := by decide +kernel
theorem dX18_ring_49 : decode cX18_ring 49 = .ok (.goto 5, 3) := by decide +kernel
theorem dX18_ring_52 : decode cX18_ring 52 = .ok (.bipush 20, 2) := by decide +kernel
theorem dX18_ring_54 : decode cX18_ring 54 = .ok (.if_icmp .ne 9, 3) := by decide +kernel
theorem dX18_ring_57 : decode cX18_ring 57 = .ok (.aload_n 0, 1) := by decide +kernel
theorem dX18_ring_58 : decode cX18_ring 58 = .ok (.iconst 2, 1) := by decide +kernel
theorem dX18_ring_59 : decode cX18_ring 59 = .ok (.invokevirtual 88, 3) := by decide +kernel
theorem dX18_ring_62 : decode cX18_ring 62 = .ok (.ireturn, 1) := by decide +kernel
theorem dX18_ring_63 : decode cX18_ring 63 = .ok (.aload_n 3, 1) := by decide +kernel
theorem dX18_ring_64 : decode cX18_ring 64 = .ok (.iload_n 1, 1) := by decide +kernel
theorem dX18_ring_65 : decode cX18_ring 65 = .ok (.invokestatic 211, 3) := by decide +kernel
theorem dX18_ring_68 : decode cX18_ring 68 = .ok (.invokeinterface 96 2, 5) := by decide +kernel
theorem dX18_ring_73 : decode cX18_ring 73 = .ok (.pop, 1) := by decide +kernel
theorem dX18_ring_74 : decode cX18_ring 74 = .ok (.aload_n 3, 1) := by decide +kernel
theorem dX18_ring_75 : decode cX18_ring 75 = .ok (.invokeinterface 74 1, 5) := by decide +kernel
theorem dX18_ring_80 : decode cX18_ring 80 = .ok (.ireturn, 1) := by decide +kernel
set_option maxRecDepth 20000 in
theorem ggX18_boardAt_Jx4a65c_isEmpty_aae02 : GoodIn wsX18_boardAt wsJx4a65c_isEmpty_aae02 := goodIn_r _ [17, 18, 68, 69, 70] (by decide +kernel) (by decide +kernel)
set_option maxRecDepth 20000 in
theorem gX18_boardAt_Jx4a65c_isEmpty_aae02_f107Jx4a65c : GoodIn wsX18_boardAt (va_wsF RX18 107 RJx4a65c ⟨"java/util/List", "isEmpty", "()Z"⟩ yJx4a65c_isEmpty_aae02 wsJx4a65c_isEmpty_aae02) := goodIn_app (goodIn_of _ (by decide +kernel)) ggX18_boardAt_Jx4a65c_isEmpty_aae02
set_option maxRecDepth 20000 in
theorem ggX18_boardAt_Jx4a65c_size_8abf5 : GoodIn wsX18_boardAt wsJx4a65c_size_8abf5 := goodIn_r _ [22, 18, 68, 69, 70] (by decide +kernel) (by decide +kernel)
set_option maxRecDepth 20000 in
theorem gX18_boardAt_Jx4a65c_size_8abf5_f74Jx4a65c : GoodIn wsX18_boardAt (va_wsF RX18 74 RJx4a65c ⟨"java/util/List", "size", "()I"⟩ yJx4a65c_size_8abf5 wsJx4a65c_size_8abf5) := goodIn_app (goodIn_of _ (by decide +kernel)) ggX18_boardAt_Jx4a65c_size_8abf5
set_option maxRecDepth 20000 in
theorem ggX18_boardAt_X18_fails : GoodIn wsX18_boardAt wsX18_fails := goodIn_r _ [27, 1, 51, 52, 53, 54, 55, 56, 57, 58, 59, 60, 61, 62, 63, 64, 65, 66, 67] (by decide +kernel) (by decide +kernel)
set_option maxRecDepth 20000 in
theorem gX18_boardAt_X18_fails : GoodIn wsX18_boardAt (wsV RX18 88 RX18 yX18_fails wsX18_fails) := goodIn_app (goodIn_of _ (by decide +kernel)) ggX18_boardAt_X18_fails
set_option maxRecDepth 20000 in
theorem ggX18_boardAt_Jx4a65c_get_915e3 : GoodIn wsX18_boardAt wsJx4a65c_get_915e3 := goodIn_r _ [31, 18, 32, 33, 34, 35, 36, 37, 38, 39, 40, 41, 42, 16, 43, 44, 68, 69, 70] (by decide +kernel) (by decide +kernel)
set_option maxRecDepth 20000 in
theorem gX18_boardAt_Jx4a65c_get_915e3_f148Jx4a65c : GoodIn wsX18_boardAt (va_wsF RX18 148 RJx4a65c ⟨"java/util/List", "get", "(I)Ljava/lang/Object;"⟩ yJx4a65c_get_915e3 wsJx4a65c_get_915e3) := goodIn_app (goodIn_of _ (by decide +kernel)) ggX18_boardAt_Jx4a65c_get_915e3
set_option maxRecDepth 20000 in
theorem ggX18_boardAt_J6_intValue_8abf5 : GoodIn wsX18_boardAt wsJ6_intValue_8abf5 := goodIn_r _ [49, 50, 71] (by decide +kernel) (by decide +kernel)
set_option maxRecDepth 20000 in
theorem gX18_boardAt_J6_intValue_8abf5 : GoodIn wsX18_boardAt (wsV RX18 221 RJ6 yJ6_intValue_8abf5 wsJ6_intValue_8abf5) := goodIn_app (goodIn_of _ (by decide +kernel)) ggX18_boardAt_J6_intValue_8abf5
theorem dX18_boardAt_0 : decode cX18_boardAt 0 = .ok (.aload_n 0, 1) := by decide +kernel
theorem dX18_boardAt_1 : decode cX18_boardAt 1 = .ok (.iconst 0, 1) := by decide +kernel
theorem dX18_boardAt_2 : decode cX18_boardAt 2 = .ok (.putfield 67, 3) := by decide +kernel
theorem dX18_boardAt_5 : decode cX18_boardAt 5 = .ok (.aload_n 0, 1) := by decide +kernel
theorem dX18_boardAt_6 : decode cX18_boardAt 6 = .ok (.getfield 49, 3) := by decide +kernel
theorem dX18_boardAt_9 : decode cX18_boardAt 9 = .ok (.invokeinterface 107 1, 5) := by decide +kernel
theorem dX18_boardAt_14 : decode cX18_boardAt 14 = .ok (.ifCond .ne 24, 3) := by decide +kernel
theorem dX18_boardAt_17 : decode cX18_boardAt 17 = .ok (.aload_n 0, 1) := by decide +kernel
theorem dX18_boardAt_18 : decode cX18_boardAt 18 = .ok (.getfield 49, 3) := by decide +kernel
theorem dX18_boardAt_21 : decode cX18_boardAt 21 = .ok (.invokeinterface 74 1, 5) := by decide +kernel
theorem dX18_boardAt_26 : decode cX18_boardAt 26 = .ok (.aload_n 0, 1) := by decide +kernel
theorem dX18_boardAt_27 : decode cX18_boardAt 27 = .ok (.getfield 52, 3) := by decide +kernel
theorem dX18_boardAt_30 : decode cX18_boardAt 30 = .ok (.invokeinterface 74 1, 5) := by decide +kernel
theorem dX18_boardAt_35 : decode cX18_boardAt 35 = .ok (.if_icmp .le 9, 3) := by decide +kernel
theorem dX18_boardAt_38 : decode cX18_boardAt 38 = .ok (.aload_n 0, 1) := by decide +kernel
theorem dX18_boardAt_39 : decode cX18_boardAt 39 = .ok (.iconst 1, 1) := by decide +kernel
theorem dX18_boardAt_40 : decode cX18_boardAt 40 = .ok (.invokevirtual 88, 3) := by decide +kernel
theorem dX18_boardAt_43 : decode cX18_boardAt 43 = .ok (.ireturn, 1) := by decide +kernel
theorem dX18_boardAt_44 : decode cX18_boardAt 44 = .ok (.iconst 0, 1) := by decide +kernel
theorem dX18_boardAt_45 : decode cX18_boardAt 45 = .ok (.istore_n 1, 1) := by decide +kernel
theorem dX18_boardAt_46 : decode cX18_boardAt 46 = .ok (.ldc 242, 2) := by decide +kernel
theorem dX18_boardAt_48 : decode cX18_boardAt 48 = .ok (.istore_n 2, 1) := by decide +kernel
theorem dX18_boardAt_49 : decode cX18_boardAt 49 = .ok (.iconst 0, 1) := by decide +kernel
theorem dX18_boardAt_50 : decode cX18_boardAt 50 = .ok (.istore_n 3, 1) := by decide +kernel
theorem dX18_boardAt_51 : decode cX18_boardAt 51 = .ok (.iload_n 3, 1) := by decide +kernel
theorem dX18_boardAt_52 : decode cX18_boardAt 52 = .ok (.aload_n 0, 1) := by decide +kernel
theorem dX18_boardAt_53 : decode cX18_boardAt 53 = .ok (.getfield 49, 3) := by decide +kernel
theorem dX18_boardAt_56 : decode cX18_boardAt 56 = .ok (.invokeinterface 74 1, 5) := by decide +kernel
theorem dX18_boardAt_61 : decode cX18_boardAt 61 = .ok (.iadd, 1) := by decide +kernel
theorem dX18_boardAt_62 : decode cX18_boardAt 62 = .ok (.aload_n 0, 1) := by decide +kernel
theorem dX18_boardAt_63 : decode cX18_boardAt 63 = .ok (.getfield 52, 3) := by decide +kernel
theorem dX18_boardAt_66 : decode cX18_boardAt 66 = .ok (.invokeinterface 74 1, 5) := by decide +kernel
theorem dX18_boardAt_71 : decode cX18_boardAt 71 = .ok (.if_icmp .gt 99, 3) := by decide +kernel
theorem dX18_boardAt_74 : decode cX18_boardAt 74 = .ok (.iconst 0, 1) := by decide +kernel
theorem dX18_boardAt_75 : decode cX18_boardAt 75 = .ok (.istore 4, 2) := by decide +kernel
theorem dX18_boardAt_77 : decode cX18_boardAt 77 = .ok (.iconst 0, 1) := by decide +kernel
theorem dX18_boardAt_78 : decode cX18_boardAt 78 = .ok (.istore 5, 2) := by decide +kernel
theorem dX18_boardAt_80 : decode cX18_boardAt 80 = .ok (.iload 5, 2) := by decide +kernel
theorem dX18_boardAt_82 : decode cX18_boardAt 82 = .ok (.aload_n 0, 1) := by decide +kernel
theorem dX18_boardAt_83 : decode cX18_boardAt 83 = .ok (.getfield 49, 3) := by decide +kernel
theorem dX18_boardAt_86 : decode cX18_boardAt 86 = .ok (.invokeinterface 74 1, 5) := by decide +kernel
theorem dX18_boardAt_91 : decode cX18_boardAt 91 = .ok (.if_icmp .ge 54, 3) := by decide +kernel
theorem dX18_boardAt_94 : decode cX18_boardAt 94 = .ok (.iload 4, 2) := by decide +kernel
theorem dX18_boardAt_96 : decode cX18_boardAt 96 = .ok (.aload_n 0, 1) := by decide +kernel
theorem dX18_boardAt_97 : decode cX18_boardAt 97 = .ok (.getfield 49, 3) := by decide +kernel
theorem dX18_boardAt_100 : decode cX18_boardAt 100 = .ok (.iload 5, 2) := by decide +kernel
theorem dX18_boardAt_102 : decode cX18_boardAt 102 = .ok (.invokeinterface 148 2, 5) := by decide +kernel
theorem dX18_boardAt_107 : decode cX18_boardAt 107 = .ok (.checkcast 212, 3) := by decide +kernel
theorem dX18_boardAt_110 : decode cX18_boardAt 110 = .ok (.invokevirtual 221, 3) := by decide +kernel
theorem dX18_boardAt_113 : decode cX18_boardAt 113 = .ok (.aload_n 0, 1) := by decide +kernel
theorem dX18_boardAt_114 : decode cX18_boardAt 114 = .ok (.getfield 52, 3) := by decide +kernel
theorem dX18_boardAt_117 : decode cX18_boardAt 117 = .ok (.iload_n 3, 1) := by decide +kernel
theorem dX18_boardAt_118 : decode cX18_boardAt 118 = .ok (.iload 5, 2) := by decide +kernel
theorem dX18_boardAt_120 : decode cX18_boardAt 120 = .ok (.iadd, 1) := by decide +kernel
theorem dX18_boardAt_121 : decode cX18_boardAt 121 = .ok (.invokeinterface 148 2, 5) := by decide +kernel
theorem dX18_boardAt_126 : decode cX18_boardAt 126 = .ok (.checkcast 212, 3) := by decide +kernel
theorem dX18_boardAt_129 : decode cX18_boardAt 129 = .ok (.invokevirtual 221, 3) := by decide +kernel
theorem dX18_boardAt_132 : decode cX18_boardAt 132 = .ok (.isub, 1) := by decide +kernel
theorem dX18_boardAt_133 : decode cX18_boardAt 133 = .ok (.invokestatic 119, 3) := by decide +kernel
theorem dX18_boardAt_136 : decode cX18_boardAt 136 = .ok (.iadd, 1) := by decide +kernel
theorem dX18_boardAt_137 : decode cX18_boardAt 137 = .ok (.istore 4, 2) := by decide +kernel
theorem dX18_boardAt_139 : decode cX18_boardAt 139 = .ok (.iinc 5 1, 3) := by decide +kernel
theorem dX18_boardAt_142 : decode cX18_boardAt 142 = .ok (.goto (-62), 3) := by decide +kernel
theorem dX18_boardAt_145 : decode cX18_boardAt 145 = .ok (.iload 4, 2) := by decide +kernel
theorem dX18_boardAt_147 : decode cX18_boardAt 147 = .ok (.iload_n 2, 1) := by decide +kernel
theorem dX18_boardAt_148 : decode cX18_boardAt 148 = .ok (.if_icmp .ge 7, 3) := by decide +kernel
theorem dX18_boardAt_151 : decode cX18_boardAt 151 = .ok (.iload_n 3, 1) := by decide +kernel
theorem dX18_boardAt_152 : decode cX18_boardAt 152 = .ok (.goto 4, 3) := by decide +kernel
theorem dX18_boardAt_155 : decode cX18_boardAt 155 = .ok (.iload_n 1, 1) := by decide +kernel
theorem dX18_boardAt_156 : decode cX18_boardAt 156 = .ok (.istore_n 1, 1) := by decide +kernel
theorem dX18_boardAt_157 : decode cX18_boardAt 157 = .ok (.iload 4, 2) := by decide +kernel
theorem dX18_boardAt_159 : decode cX18_boardAt 159 = .ok (.iload_n 2, 1) := by decide +kernel
theorem dX18_boardAt_160 : decode cX18_boardAt 160 = .ok (.invokestatic 238, 3) := by decide +kernel
theorem dX18_boardAt_163 : decode cX18_boardAt 163 = .ok (.istore_n 2, 1) := by decide +kernel
theorem dX18_boardAt_164 : decode cX18_boardAt 164 = .ok (.iinc 3 1, 3) := by decide +kernel
theorem dX18_boardAt_167 : decode cX18_boardAt 167 = .ok (.goto (-116), 3) := by decide +kernel
theorem dX18_boardAt_170 : decode cX18_boardAt 170 = .ok (.iload_n 1, 1) := by decide +kernel
theorem dX18_boardAt_171 : decode cX18_boardAt 171 = .ok (.ireturn, 1) := by decide +kernel
set_option maxRecDepth 20000 in
theorem ggX18_areHabits_X18_in : GoodIn wsX18_areHabits wsX18_in := goodIn_r _ [4] (by decide +kernel) (by decide +kernel)
set_option maxRecDepth 20000 in
theorem gX18_areHabits_X18_in : GoodIn wsX18_areHabits (va_wsS RX18 70 yX18_in wsX18_in) := goodIn_app (goodIn_of _ (by decide +kernel)) ggX18_areHabits_X18_in
theorem dX18_areHabits_0 : decode cX18_areHabits 0 = .ok (.iload_n 0, 1) := by decide +kernel
theorem dX18_areHabits_1 : decode cX18_areHabits 1 = .ok (.iconst 0, 1) := by decide +kernel
theorem dX18_areHabits_2 : decode cX18_areHabits 2 = .ok (.bipush 99, 2) := by decide +kernel
theorem dX18_areHabits_4 : decode cX18_areHabits 4 = .ok (.invokestatic 70, 3) := by decide +kernel
theorem dX18_areHabits_7 : decode cX18_areHabits 7 = .ok (.ifCond .eq 37, 3) := by decide +kernel
theorem dX18_areHabits_10 : decode cX18_areHabits 10 = .ok (.iload_n 1, 1) := by decide +kernel
theorem dX18_areHabits_11 : decode cX18_areHabits 11 = .ok (.iconst 0, 1) := by decide +kernel
theorem dX18_areHabits_12 : decode cX18_areHabits 12 = .ok (.bipush 99, 2) := by decide +kernel
theorem dX18_areHabits_14 : decode cX18_areHabits 14 = .ok (.invokestatic 70, 3) := by decide +kernel
theorem dX18_areHabits_17 : decode cX18_areHabits 17 = .ok (.ifCond .eq 27, 3) := by decide +kernel
theorem dX18_areHabits_20 : decode cX18_areHabits 20 = .ok (.iload_n 2, 1) := by decide +kernel
theorem dX18_areHabits_21 : decode cX18_areHabits 21 = .ok (.iconst 0, 1) := by decide +kernel
theorem dX18_areHabits_22 : decode cX18_areHabits 22 = .ok (.bipush 99, 2) := by decide +kernel
theorem dX18_areHabits_24 : decode cX18_areHabits 24 = .ok (.invokestatic 70, 3) := by decide +kernel
theorem dX18_areHabits_27 : decode cX18_areHabits 27 = .ok (.ifCond .eq 17, 3) := by decide +kernel
theorem dX18_areHabits_30 : decode cX18_areHabits 30 = .ok (.iload_n 3, 1) := by decide +kernel
theorem dX18_areHabits_31 : decode cX18_areHabits 31 = .ok (.iconst 0, 1) := by decide +kernel
theorem dX18_areHabits_32 : decode cX18_areHabits 32 = .ok (.bipush 99, 2) := by decide +kernel
theorem dX18_areHabits_34 : decode cX18_areHabits 34 = .ok (.invokestatic 70, 3) := by decide +kernel
theorem dX18_areHabits_37 : decode cX18_areHabits 37 = .ok (.ifCond .eq 7, 3) := by decide +kernel
theorem dX18_areHabits_40 : decode cX18_areHabits 40 = .ok (.iconst 1, 1) := by decide +kernel
theorem dX18_areHabits_41 : decode cX18_areHabits 41 = .ok (.goto 4, 3) := by decide +kernel
theorem dX18_areHabits_44 : decode cX18_areHabits 44 = .ok (.iconst 0, 1) := by decide +kernel
theorem dX18_areHabits_45 : decode cX18_areHabits 45 = .ok (.ireturn, 1) := by decide +kernel
set_option maxRecDepth 20000 in
theorem ggX18_painter_X18_areHabits : GoodIn wsX18_painter wsX18_areHabits := goodIn_r _ [7, 8, 9, 6, 10] (by decide +kernel) (by decide +kernel)
set_option maxRecDepth 20000 in
theorem gX18_painter_X18_areHabits : GoodIn wsX18_painter (va_wsS RX18 243 yX18_areHabits wsX18_areHabits) := goodIn_app (goodIn_of _ (by decide +kernel)) ggX18_painter_X18_areHabits
set_option maxRecDepth 20000 in
theorem ggX18_painter_X18_fails : GoodIn wsX18_painter wsX18_fails := goodIn_r _ [14, 1, 75, 76, 77, 78, 79, 80, 81, 82, 83, 84, 85, 86, 87, 88, 89, 90, 91] (by decide +kernel) (by decide +kernel)
set_option maxRecDepth 20000 in
theorem gX18_painter_X18_fails : GoodIn wsX18_painter (wsV RX18 88 RX18 yX18_fails wsX18_fails) := goodIn_app (goodIn_of _ (by decide +kernel)) ggX18_painter_X18_fails
set_option maxRecDepth 20000 in
theorem ggX18_painter_Jx4a65c_size_8abf5 : GoodIn wsX18_painter wsJx4a65c_size_8abf5 := goodIn_r _ [19, 20, 92, 93, 94] (by decide +kernel) (by decide +kernel)
set_option maxRecDepth 20000 in
theorem gX18_painter_Jx4a65c_size_8abf5_f74Jx4a65c : GoodIn wsX18_painter (va_wsF RX18 74 RJx4a65c ⟨"java/util/List", "size", "()I"⟩ yJx4a65c_size_8abf5 wsJx4a65c_size_8abf5) := goodIn_app (goodIn_of _ (by decide +kernel)) ggX18_painter_Jx4a65c_size_8abf5
set_option maxRecDepth 20000 in
theorem ggX18_painter_Jx4a65c_add_9ea2d : GoodIn wsX18_painter wsJx4a65c_add_9ea2d := goodIn_r _ [24, 25, 26, 27, 20, 28, 29, 30, 18, 31, 32, 33, 34, 35, 36, 37, 38, 39, 40, 41, 42, 43, 44, 45, 46, 47, 48, 49, 50, 51, 52, 53, 54, 55, 56, 57, 58, 59, 60, 61, 62, 63, 64, 65, 66, 67, 68, 69, 70, 71, 72, 73, 74, 92, 93, 94] (by decide +kernel) (by decide +kernel)
set_option maxRecDepth 20000 in
theorem gX18_painter_Jx4a65c_add_9ea2d_f96Jx4a65c : GoodIn wsX18_painter (va_wsF RX18 96 RJx4a65c ⟨"java/util/List", "add", "(Ljava/lang/Object;)Z"⟩ yJx4a65c_add_9ea2d wsJx4a65c_add_9ea2d) := goodIn_app (goodIn_of _ (by decide +kernel)) ggX18_painter_Jx4a65c_add_9ea2d
theorem dX18_painter_0 : decode cX18_painter 0 = .ok (.aload_n 0, 1) := by decide +kernel
theorem dX18_painter_1 : decode cX18_painter 1 = .ok (.iconst 0, 1) := by decide +kernel
theorem dX18_painter_2 : decode cX18_painter 2 = .ok (.putfield 67, 3) := by decide +kernel
theorem dX18_painter_5 : decode cX18_painter 5 = .ok (.iload_n 1, 1) := by decide +kernel
theorem dX18_painter_6 : decode cX18_painter 6 = .ok (.iload_n 2, 1) := by decide +kernel
theorem dX18_painter_7 : decode cX18_painter 7 = .ok (.iload_n 3, 1) := by decide +kernel
theorem dX18_painter_8 : decode cX18_painter 8 = .ok (.iload 4, 2) := by decide +kernel
theorem dX18_painter_10 : decode cX18_painter 10 = .ok (.invokestatic 243, 3) := by decide +kernel
theorem dX18_painter_13 : decode cX18_painter 13 = .ok (.ifCond .ne 9, 3) := by decide +kernel
theorem dX18_painter_16 : decode cX18_painter 16 = .ok (.aload_n 0, 1) := by decide +kernel
theorem dX18_painter_17 : decode cX18_painter 17 = .ok (.iconst 1, 1) := by decide +kernel
theorem dX18_painter_18 : decode cX18_painter 18 = .ok (.invokevirtual 88, 3) := by decide +kernel
theorem dX18_painter_21 : decode cX18_painter 21 = .ok (.ireturn, 1) := by decide +kernel
theorem dX18_painter_22 : decode cX18_painter 22 = .ok (.aload_n 0, 1) := by decide +kernel
theorem dX18_painter_23 : decode cX18_painter 23 = .ok (.getfield 55, 3) := by decide +kernel
theorem dX18_painter_26 : decode cX18_painter 26 = .ok (.invokeinterface 74 1, 5) := by decide +kernel
theorem dX18_painter_31 : decode cX18_painter 31 = .ok (.bipush 6, 2) := by decide +kernel
theorem dX18_painter_33 : decode cX18_painter 33 = .ok (.if_icmp .ne 9, 3) := by decide +kernel
theorem dX18_painter_36 : decode cX18_painter 36 = .ok (.aload_n 0, 1) := by decide +kernel
theorem dX18_painter_37 : decode cX18_painter 37 = .ok (.iconst 2, 1) := by decide +kernel
theorem dX18_painter_38 : decode cX18_painter 38 = .ok (.invokevirtual 88, 3) := by decide +kernel
theorem dX18_painter_41 : decode cX18_painter 41 = .ok (.ireturn, 1) := by decide +kernel
theorem dX18_painter_42 : decode cX18_painter 42 = .ok (.aload_n 0, 1) := by decide +kernel
theorem dX18_painter_43 : decode cX18_painter 43 = .ok (.getfield 55, 3) := by decide +kernel
theorem dX18_painter_46 : decode cX18_painter 46 = .ok (.iconst 4, 1) := by decide +kernel
theorem dX18_painter_47 : decode cX18_painter 47 = .ok (.newarray .int, 2) := by decide +kernel
theorem dX18_painter_49 : decode cX18_painter 49 = .ok (.dup, 1) := by decide +kernel
theorem dX18_painter_50 : decode cX18_painter 50 = .ok (.iconst 0, 1) := by decide +kernel
theorem dX18_painter_51 : decode cX18_painter 51 = .ok (.iload_n 1, 1) := by decide +kernel
theorem dX18_painter_52 : decode cX18_painter 52 = .ok (.iastore, 1) := by decide +kernel
theorem dX18_painter_53 : decode cX18_painter 53 = .ok (.dup, 1) := by decide +kernel
theorem dX18_painter_54 : decode cX18_painter 54 = .ok (.iconst 1, 1) := by decide +kernel
theorem dX18_painter_55 : decode cX18_painter 55 = .ok (.iload_n 2, 1) := by decide +kernel
theorem dX18_painter_56 : decode cX18_painter 56 = .ok (.iastore, 1) := by decide +kernel
theorem dX18_painter_57 : decode cX18_painter 57 = .ok (.dup, 1) := by decide +kernel
theorem dX18_painter_58 : decode cX18_painter 58 = .ok (.iconst 2, 1) := by decide +kernel
theorem dX18_painter_59 : decode cX18_painter 59 = .ok (.iload_n 3, 1) := by decide +kernel
theorem dX18_painter_60 : decode cX18_painter 60 = .ok (.iastore, 1) := by decide +kernel
theorem dX18_painter_61 : decode cX18_painter 61 = .ok (.dup, 1) := by decide +kernel
theorem dX18_painter_62 : decode cX18_painter 62 = .ok (.iconst 3, 1) := by decide +kernel
theorem dX18_painter_63 : decode cX18_painter 63 = .ok (.iload 4, 2) := by decide +kernel
theorem dX18_painter_65 : decode cX18_painter 65 = .ok (.iastore, 1) := by decide +kernel
theorem dX18_painter_66 : decode cX18_painter 66 = .ok (.invokeinterface 96 2, 5) := by decide +kernel
theorem dX18_painter_71 : decode cX18_painter 71 = .ok (.pop, 1) := by decide +kernel
theorem dX18_painter_72 : decode cX18_painter 72 = .ok (.aload_n 0, 1) := by decide +kernel
theorem dX18_painter_73 : decode cX18_painter 73 = .ok (.getfield 55, 3) := by decide +kernel
theorem dX18_painter_76 : decode cX18_painter 76 = .ok (.invokeinterface 74 1, 5) := by decide +kernel
theorem dX18_painter_81 : decode cX18_painter 81 = .ok (.iconst 1, 1) := by decide +kernel
theorem dX18_painter_82 : decode cX18_painter 82 = .ok (.isub, 1) := by decide +kernel
theorem dX18_painter_83 : decode cX18_painter 83 = .ok (.ireturn, 1) := by decide +kernel
set_option maxRecDepth 20000 in
theorem ggX18_far_Jx4a65c_get_915e3 : GoodIn wsX18_far wsJx4a65c_get_915e3 := goodIn_r _ [7, 8, 9, 10, 11, 12, 13, 14, 15, 16, 17, 18, 19, 6, 20, 21, 39, 40, 41] (by decide +kernel) (by decide +kernel)
set_option maxRecDepth 20000 in
theorem gX18_far_Jx4a65c_get_915e3_f148Jx4a65c : GoodIn wsX18_far (va_wsF RX18 148 RJx4a65c ⟨"java/util/List", "get", "(I)Ljava/lang/Object;"⟩ yJx4a65c_get_915e3 wsJx4a65c_get_915e3) := goodIn_app (goodIn_of _ (by decide +kernel)) ggX18_far_Jx4a65c_get_915e3
theorem dX18_far_0 : decode cX18_far 0 = .ok (.iconst 0, 1) := by decide +kernel
theorem dX18_far_1 : decode cX18_far 1 = .ok (.istore_n 3, 1) := by decide +kernel
theorem dX18_far_2 : decode cX18_far 2 = .ok (.iconst 0, 1) := by decide +kernel
theorem dX18_far_3 : decode cX18_far 3 = .ok (.istore 4, 2) := by decide +kernel
theorem dX18_far_5 : decode cX18_far 5 = .ok (.iload 4, 2) := by decide +kernel
theorem dX18_far_7 : decode cX18_far 7 = .ok (.iconst 4, 1) := by decide +kernel
theorem dX18_far_8 : decode cX18_far 8 = .ok (.if_icmp .ge 55, 3) := by decide +kernel
theorem dX18_far_11 : decode cX18_far 11 = .ok (.iload_n 3, 1) := by decide +kernel
theorem dX18_far_12 : decode cX18_far 12 = .ok (.aload_n 0, 1) := by decide +kernel
theorem dX18_far_13 : decode cX18_far 13 = .ok (.getfield 55, 3) := by decide +kernel
theorem dX18_far_16 : decode cX18_far 16 = .ok (.iload_n 1, 1) := by decide +kernel
theorem dX18_far_17 : decode cX18_far 17 = .ok (.invokeinterface 148 2, 5) := by decide +kernel
theorem dX18_far_22 : decode cX18_far 22 = .ok (.checkcast 247, 3) := by decide +kernel
theorem dX18_far_25 : decode cX18_far 25 = .ok (.iload 4, 2) := by decide +kernel
theorem dX18_far_27 : decode cX18_far 27 = .ok (.iaload, 1) := by decide +kernel
theorem dX18_far_28 : decode cX18_far 28 = .ok (.aload_n 2, 1) := by decide +kernel
theorem dX18_far_29 : decode cX18_far 29 = .ok (.iload 4, 2) := by decide +kernel
theorem dX18_far_31 : decode cX18_far 31 = .ok (.iaload, 1) := by decide +kernel
theorem dX18_far_32 : decode cX18_far 32 = .ok (.isub, 1) := by decide +kernel
theorem dX18_far_33 : decode cX18_far 33 = .ok (.aload_n 0, 1) := by decide +kernel
theorem dX18_far_34 : decode cX18_far 34 = .ok (.getfield 55, 3) := by decide +kernel
theorem dX18_far_37 : decode cX18_far 37 = .ok (.iload_n 1, 1) := by decide +kernel
theorem dX18_far_38 : decode cX18_far 38 = .ok (.invokeinterface 148 2, 5) := by decide +kernel
theorem dX18_far_43 : decode cX18_far 43 = .ok (.checkcast 247, 3) := by decide +kernel
theorem dX18_far_46 : decode cX18_far 46 = .ok (.iload 4, 2) := by decide +kernel
theorem dX18_far_48 : decode cX18_far 48 = .ok (.iaload, 1) := by decide +kernel
theorem dX18_far_49 : decode cX18_far 49 = .ok (.aload_n 2, 1) := by decide +kernel
theorem dX18_far_50 : decode cX18_far 50 = .ok (.iload 4, 2) := by decide +kernel
theorem dX18_far_52 : decode cX18_far 52 = .ok (.iaload, 1) := by decide +kernel
theorem dX18_far_53 : decode cX18_far 53 = .ok (.isub, 1) := by decide +kernel
theorem dX18_far_54 : decode cX18_far 54 = .ok (.imul, 1) := by decide +kernel
theorem dX18_far_55 : decode cX18_far 55 = .ok (.iadd, 1) := by decide +kernel
theorem dX18_far_56 : decode cX18_far 56 = .ok (.istore_n 3, 1) := by decide +kernel
theorem dX18_far_57 : decode cX18_far 57 = .ok (.iinc 4 1, 3) := by decide +kernel
theorem dX18_far_60 : decode cX18_far 60 = .ok (.goto (-55), 3) := by decide +kernel
theorem dX18_far_63 : decode cX18_far 63 = .ok (.iload_n 3, 1) := by decide +kernel
theorem dX18_far_64 : decode cX18_far 64 = .ok (.ireturn, 1) := by decide +kernel
set_option maxRecDepth 20000 in
theorem ggX18_nearest_Jx4a65c_size_8abf5 : GoodIn wsX18_nearest wsJx4a65c_size_8abf5 := goodIn_r _ [6, 7, 48, 49, 50] (by decide +kernel) (by decide +kernel)
set_option maxRecDepth 20000 in
theorem gX18_nearest_Jx4a65c_size_8abf5_f74Jx4a65c : GoodIn wsX18_nearest (va_wsF RX18 74 RJx4a65c ⟨"java/util/List", "size", "()I"⟩ yJx4a65c_size_8abf5 wsJx4a65c_size_8abf5) := goodIn_app (goodIn_of _ (by decide +kernel)) ggX18_nearest_Jx4a65c_size_8abf5
set_option maxRecDepth 20000 in
theorem ggX18_nearest_X18_far : GoodIn wsX18_nearest wsX18_far := goodIn_ca (goodIn_r _ [12, 1, 13, 14, 15, 16, 5, 17, 7, 18, 19, 20, 21, 22, 23, 24, 25, 26, 27, 28, 29, 30, 31, 32, 33, 34, 35, 36, 37, 38, 39, 40, 41, 42, 43, 44, 45, 46, 47, 48, 49, 50] (by decide +kernel) (by decide +kernel)) (goodIn_sub (fun _ h => List.mem_cons_of_mem _ (List.mem_append_right _ h)) (by decide +kernel))
set_option maxRecDepth 20000 in
theorem gX18_nearest_X18_far : GoodIn wsX18_nearest (wsV RX18 248 RX18 yX18_far wsX18_far) := goodIn_app (goodIn_of _ (by decide +kernel)) ggX18_nearest_X18_far
theorem dX18_nearest_0 : decode cX18_nearest 0 = .ok (.iconst (-1), 1) := by decide +kernel
theorem dX18_nearest_1 : decode cX18_nearest 1 = .ok (.istore_n 3, 1) := by decide +kernel
theorem dX18_nearest_2 : decode cX18_nearest 2 = .ok (.iconst 0, 1) := by decide +kernel
theorem dX18_nearest_3 : decode cX18_nearest 3 = .ok (.istore 4, 2) := by decide +kernel
theorem dX18_nearest_5 : decode cX18_nearest 5 = .ok (.iload 4, 2) := by decide +kernel
theorem dX18_nearest_7 : decode cX18_nearest 7 = .ok (.aload_n 0, 1) := by decide +kernel
theorem dX18_nearest_8 : decode cX18_nearest 8 = .ok (.getfield 55, 3) := by decide +kernel
theorem dX18_nearest_11 : decode cX18_nearest 11 = .ok (.invokeinterface 74 1, 5) := by decide +kernel
theorem dX18_nearest_16 : decode cX18_nearest 16 = .ok (.if_icmp .ge 43, 3) := by decide +kernel
theorem dX18_nearest_19 : decode cX18_nearest 19 = .ok (.iload 4, 2) := by decide +kernel
theorem dX18_nearest_21 : decode cX18_nearest 21 = .ok (.iload_n 2, 1) := by decide +kernel
theorem dX18_nearest_22 : decode cX18_nearest 22 = .ok (.if_icmp .eq 29, 3) := by decide +kernel
theorem dX18_nearest_25 : decode cX18_nearest 25 = .ok (.iload_n 3, 1) := by decide +kernel
theorem dX18_nearest_26 : decode cX18_nearest 26 = .ok (.iconst (-1), 1) := by decide +kernel
theorem dX18_nearest_27 : decode cX18_nearest 27 = .ok (.if_icmp .eq 19, 3) := by decide +kernel
theorem dX18_nearest_30 : decode cX18_nearest 30 = .ok (.aload_n 0, 1) := by decide +kernel
theorem dX18_nearest_31 : decode cX18_nearest 31 = .ok (.iload 4, 2) := by decide +kernel
theorem dX18_nearest_33 : decode cX18_nearest 33 = .ok (.aload_n 1, 1) := by decide +kernel
theorem dX18_nearest_34 : decode cX18_nearest 34 = .ok (.invokevirtual 248, 3) := by decide +kernel
theorem dX18_nearest_37 : decode cX18_nearest 37 = .ok (.aload_n 0, 1) := by decide +kernel
theorem dX18_nearest_38 : decode cX18_nearest 38 = .ok (.iload_n 3, 1) := by decide +kernel
theorem dX18_nearest_39 : decode cX18_nearest 39 = .ok (.aload_n 1, 1) := by decide +kernel
theorem dX18_nearest_40 : decode cX18_nearest 40 = .ok (.invokevirtual 248, 3) := by decide +kernel
theorem dX18_nearest_43 : decode cX18_nearest 43 = .ok (.if_icmp .ge 8, 3) := by decide +kernel
theorem dX18_nearest_46 : decode cX18_nearest 46 = .ok (.iload 4, 2) := by decide +kernel
theorem dX18_nearest_48 : decode cX18_nearest 48 = .ok (.goto 4, 3) := by decide +kernel
theorem dX18_nearest_51 : decode cX18_nearest 51 = .ok (.iload_n 3, 1) := by decide +kernel
theorem dX18_nearest_52 : decode cX18_nearest 52 = .ok (.istore_n 3, 1) := by decide +kernel
theorem dX18_nearest_53 : decode cX18_nearest 53 = .ok (.iinc 4 1, 3) := by decide +kernel
theorem dX18_nearest_56 : decode cX18_nearest 56 = .ok (.goto (-51), 3) := by decide +kernel
theorem dX18_nearest_59 : decode cX18_nearest 59 = .ok (.iload_n 3, 1) := by decide +kernel
theorem dX18_nearest_60 : decode cX18_nearest 60 = .ok (.ireturn, 1) := by decide +kernel
set_option maxRecDepth 20000 in
theorem ggX18_likely_X18_areHabits : GoodIn wsX18_likely wsX18_areHabits := goodIn_r _ [7, 8, 9, 6, 10] (by decide +kernel) (by decide +kernel)
set_option maxRecDepth 20000 in
theorem gX18_likely_X18_areHabits : GoodIn wsX18_likely (va_wsS RX18 243 yX18_areHabits wsX18_areHabits) := goodIn_app (goodIn_of _ (by decide +kernel)) ggX18_likely_X18_areHabits
set_option maxRecDepth 20000 in
theorem ggX18_likely_Jx4a65c_isEmpty_aae02 : GoodIn wsX18_likely wsJx4a65c_isEmpty_aae02 := goodIn_r _ [15, 16, 64, 65, 66] (by decide +kernel) (by decide +kernel)
set_option maxRecDepth 20000 in
theorem gX18_likely_Jx4a65c_isEmpty_aae02_f107Jx4a65c : GoodIn wsX18_likely (va_wsF RX18 107 RJx4a65c ⟨"java/util/List", "isEmpty", "()Z"⟩ yJx4a65c_isEmpty_aae02 wsJx4a65c_isEmpty_aae02) := goodIn_app (goodIn_of _ (by decide +kernel)) ggX18_likely_Jx4a65c_isEmpty_aae02
set_option maxRecDepth 20000 in
theorem ggX18_likely_X18_nearest : GoodIn wsX18_likely wsX18_nearest := goodIn_ca (goodIn_r _ [20, 1, 21, 22, 23, 14, 24, 16, 25, 26, 27, 6, 28, 29, 30, 31, 32, 33, 34, 35, 36, 37, 38, 39, 40, 41, 42, 43, 44, 45, 46, 47, 48, 49, 50, 51, 52, 53, 54, 55, 56, 57, 58, 59, 60, 61, 62, 63, 64, 65, 66] (by decide +kernel) (by decide +kernel)) (goodIn_sub (fun _ h => List.mem_cons_of_mem _ (List.mem_append_right _ h)) (by decide +kernel))
set_option maxRecDepth 20000 in
theorem gX18_likely_X18_nearest : GoodIn wsX18_likely (wsV RX18 252 RX18 yX18_nearest wsX18_nearest) := goodIn_app (goodIn_of _ (by decide +kernel)) ggX18_likely_X18_nearest
theorem dX18_likely_0 : decode cX18_likely 0 = .ok (.aload_n 0, 1) := by decide +kernel
theorem dX18_likely_1 : decode cX18_likely 1 = .ok (.iload_n 1, 1) := by decide +kernel
theorem dX18_likely_2 : decode cX18_likely 2 = .ok (.iload_n 2, 1) := by decide +kernel
theorem dX18_likely_3 : decode cX18_likely 3 = .ok (.iload_n 3, 1) := by decide +kernel
theorem dX18_likely_4 : decode cX18_likely 4 = .ok (.iload 4, 2) := by decide +kernel
theorem dX18_likely_6 : decode cX18_likely 6 = .ok (.invokestatic 243, 3) := by decide +kernel
theorem dX18_likely_9 : decode cX18_likely 9 = .ok (.ifCond .ne 7, 3) := by decide +kernel
theorem dX18_likely_12 : decode cX18_likely 12 = .ok (.iconst 1, 1) := by decide +kernel
theorem dX18_likely_13 : decode cX18_likely 13 = .ok (.goto 20, 3) := by decide +kernel
theorem dX18_likely_16 : decode cX18_likely 16 = .ok (.aload_n 0, 1) := by decide +kernel
theorem dX18_likely_17 : decode cX18_likely 17 = .ok (.getfield 55, 3) := by decide +kernel
theorem dX18_likely_20 : decode cX18_likely 20 = .ok (.invokeinterface 107 1, 5) := by decide +kernel
theorem dX18_likely_25 : decode cX18_likely 25 = .ok (.ifCond .eq 7, 3) := by decide +kernel
theorem dX18_likely_28 : decode cX18_likely 28 = .ok (.iconst 2, 1) := by decide +kernel
theorem dX18_likely_29 : decode cX18_likely 29 = .ok (.goto 4, 3) := by decide +kernel
theorem dX18_likely_32 : decode cX18_likely 32 = .ok (.iconst 0, 1) := by decide +kernel
theorem dX18_likely_33 : decode cX18_likely 33 = .ok (.putfield 67, 3) := by decide +kernel
theorem dX18_likely_36 : decode cX18_likely 36 = .ok (.aload_n 0, 1) := by decide +kernel
theorem dX18_likely_37 : decode cX18_likely 37 = .ok (.getfield 67, 3) := by decide +kernel
theorem dX18_likely_40 : decode cX18_likely 40 = .ok (.ifCond .le 7, 3) := by decide +kernel
theorem dX18_likely_43 : decode cX18_likely 43 = .ok (.iconst 0, 1) := by decide +kernel
theorem dX18_likely_44 : decode cX18_likely 44 = .ok (.goto 28, 3) := by decide +kernel
theorem dX18_likely_47 : decode cX18_likely 47 = .ok (.aload_n 0, 1) := by decide +kernel
theorem dX18_likely_48 : decode cX18_likely 48 = .ok (.iconst 4, 1) := by decide +kernel
theorem dX18_likely_49 : decode cX18_likely 49 = .ok (.newarray .int, 2) := by decide +kernel
theorem dX18_likely_51 : decode cX18_likely 51 = .ok (.dup, 1) := by decide +kernel
theorem dX18_likely_52 : decode cX18_likely 52 = .ok (.iconst 0, 1) := by decide +kernel
theorem dX18_likely_53 : decode cX18_likely 53 = .ok (.iload_n 1, 1) := by decide +kernel
theorem dX18_likely_54 : decode cX18_likely 54 = .ok (.iastore, 1) := by decide +kernel
theorem dX18_likely_55 : decode cX18_likely 55 = .ok (.dup, 1) := by decide +kernel
theorem dX18_likely_56 : decode cX18_likely 56 = .ok (.iconst 1, 1) := by decide +kernel
theorem dX18_likely_57 : decode cX18_likely 57 = .ok (.iload_n 2, 1) := by decide +kernel
theorem dX18_likely_58 : decode cX18_likely 58 = .ok (.iastore, 1) := by decide +kernel
theorem dX18_likely_59 : decode cX18_likely 59 = .ok (.dup, 1) := by decide +kernel
theorem dX18_likely_60 : decode cX18_likely 60 = .ok (.iconst 2, 1) := by decide +kernel
theorem dX18_likely_61 : decode cX18_likely 61 = .ok (.iload_n 3, 1) := by decide +kernel
theorem dX18_likely_62 : decode cX18_likely 62 = .ok (.iastore, 1) := by decide +kernel
theorem dX18_likely_63 : decode cX18_likely 63 = .ok (.dup, 1) := by decide +kernel
theorem dX18_likely_64 : decode cX18_likely 64 = .ok (.iconst 3, 1) := by decide +kernel
theorem dX18_likely_65 : decode cX18_likely 65 = .ok (.iload 4, 2) := by decide +kernel
theorem dX18_likely_67 : decode cX18_likely 67 = .ok (.iastore, 1) := by decide +kernel
theorem dX18_likely_68 : decode cX18_likely 68 = .ok (.iconst (-1), 1) := by decide +kernel
theorem dX18_likely_69 : decode cX18_likely 69 = .ok (.invokevirtual 252, 3) := by decide +kernel
theorem dX18_likely_72 : decode cX18_likely 72 = .ok (.ireturn, 1) := by decide +kernel
set_option maxRecDepth 20000 in
theorem ggX18_isSure_X18_areHabits : GoodIn wsX18_isSure wsX18_areHabits := goodIn_r _ [7, 8, 9, 6, 10] (by decide +kernel) (by decide +kernel)
set_option maxRecDepth 20000 in
theorem gX18_isSure_X18_areHabits : GoodIn wsX18_isSure (va_wsS RX18 243 yX18_areHabits wsX18_areHabits) := goodIn_app (goodIn_of _ (by decide +kernel)) ggX18_isSure_X18_areHabits
set_option maxRecDepth 20000 in
theorem ggX18_isSure_Jx4a65c_isEmpty_aae02 : GoodIn wsX18_isSure wsJx4a65c_isEmpty_aae02 := goodIn_r _ [15, 16, 64, 65, 66] (by decide +kernel) (by decide +kernel)
set_option maxRecDepth 20000 in
theorem gX18_isSure_Jx4a65c_isEmpty_aae02_f107Jx4a65c : GoodIn wsX18_isSure (va_wsF RX18 107 RJx4a65c ⟨"java/util/List", "isEmpty", "()Z"⟩ yJx4a65c_isEmpty_aae02 wsJx4a65c_isEmpty_aae02) := goodIn_app (goodIn_of _ (by decide +kernel)) ggX18_isSure_Jx4a65c_isEmpty_aae02
set_option maxRecDepth 20000 in
theorem ggX18_isSure_X18_nearest : GoodIn wsX18_isSure wsX18_nearest := goodIn_ca (goodIn_r _ [20, 1, 21, 22, 23, 14, 24, 16, 25, 26, 27, 6, 28, 29, 30, 31, 32, 33, 34, 35, 36, 37, 38, 39, 40, 41, 42, 43, 44, 45, 46, 47, 48, 49, 50, 51, 52, 53, 54, 55, 56, 57, 58, 59, 60, 61, 62, 63, 64, 65, 66] (by decide +kernel) (by decide +kernel)) (goodIn_sub (fun _ h => List.mem_cons_of_mem _ (List.mem_append_right _ h)) (by decide +kernel))
set_option maxRecDepth 20000 in
theorem gX18_isSure_X18_nearest : GoodIn wsX18_isSure (wsV RX18 252 RX18 yX18_nearest wsX18_nearest) := goodIn_app (goodIn_of _ (by decide +kernel)) ggX18_isSure_X18_nearest
set_option maxRecDepth 20000 in
theorem ggX18_isSure_X18_far : GoodIn wsX18_isSure wsX18_far := goodIn_ca (goodIn_r _ [28, 1, 29, 30, 31, 32, 14, 33, 16, 34, 35, 36, 37, 38, 39, 40, 41, 42, 43, 44, 45, 46, 47, 48, 49, 50, 51, 52, 53, 54, 55, 56, 57, 58, 59, 60, 61, 62, 63, 64, 65, 66] (by decide +kernel) (by decide +kernel)) (goodIn_sub (fun _ h => List.mem_cons_of_mem _ (List.mem_append_right _ h)) (by decide +kernel))
set_option maxRecDepth 20000 in
theorem gX18_isSure_X18_far : GoodIn wsX18_isSure (wsV RX18 248 RX18 yX18_far wsX18_far) := goodIn_app (goodIn_of _ (by decide +kernel)) ggX18_isSure_X18_far
theorem dX18_isSure_0 : decode cX18_isSure 0 = .ok (.aload_n 0, 1) := by decide +kernel
theorem dX18_isSure_1 : decode cX18_isSure 1 = .ok (.iload_n 1, 1) := by decide +kernel
theorem dX18_isSure_2 : decode cX18_isSure 2 = .ok (.iload_n 2, 1) := by decide +kernel
theorem dX18_isSure_3 : decode cX18_isSure 3 = .ok (.iload_n 3, 1) := by decide +kernel
theorem dX18_isSure_4 : decode cX18_isSure 4 = .ok (.iload 4, 2) := by decide +kernel
theorem dX18_isSure_6 : decode cX18_isSure 6 = .ok (.invokestatic 243, 3) := by decide +kernel
theorem dX18_isSure_9 : decode cX18_isSure 9 = .ok (.ifCond .ne 7, 3) := by decide +kernel
theorem dX18_isSure_12 : decode cX18_isSure 12 = .ok (.iconst 1, 1) := by decide +kernel
theorem dX18_isSure_13 : decode cX18_isSure 13 = .ok (.goto 20, 3) := by decide +kernel
theorem dX18_isSure_16 : decode cX18_isSure 16 = .ok (.aload_n 0, 1) := by decide +kernel
theorem dX18_isSure_17 : decode cX18_isSure 17 = .ok (.getfield 55, 3) := by decide +kernel
theorem dX18_isSure_20 : decode cX18_isSure 20 = .ok (.invokeinterface 107 1, 5) := by decide +kernel
theorem dX18_isSure_25 : decode cX18_isSure 25 = .ok (.ifCond .eq 7, 3) := by decide +kernel
theorem dX18_isSure_28 : decode cX18_isSure 28 = .ok (.iconst 2, 1) := by decide +kernel
theorem dX18_isSure_29 : decode cX18_isSure 29 = .ok (.goto 4, 3) := by decide +kernel
theorem dX18_isSure_32 : decode cX18_isSure 32 = .ok (.iconst 0, 1) := by decide +kernel
theorem dX18_isSure_33 : decode cX18_isSure 33 = .ok (.putfield 67, 3) := by decide +kernel
theorem dX18_isSure_36 : decode cX18_isSure 36 = .ok (.aload_n 0, 1) := by decide +kernel
theorem dX18_isSure_37 : decode cX18_isSure 37 = .ok (.getfield 67, 3) := by decide +kernel
theorem dX18_isSure_40 : decode cX18_isSure 40 = .ok (.ifCond .le 5, 3) := by decide +kernel
theorem dX18_isSure_43 : decode cX18_isSure 43 = .ok (.iconst 0, 1) := by decide +kernel
theorem dX18_isSure_44 : decode cX18_isSure 44 = .ok (.ireturn, 1) := by decide +kernel
theorem dX18_isSure_45 : decode cX18_isSure 45 = .ok (.iconst 4, 1) := by decide +kernel
theorem dX18_isSure_46 : decode cX18_isSure 46 = .ok (.newarray .int, 2) := by decide +kernel
theorem dX18_isSure_48 : decode cX18_isSure 48 = .ok (.dup, 1) := by decide +kernel
theorem dX18_isSure_49 : decode cX18_isSure 49 = .ok (.iconst 0, 1) := by decide +kernel
theorem dX18_isSure_50 : decode cX18_isSure 50 = .ok (.iload_n 1, 1) := by decide +kernel
theorem dX18_isSure_51 : decode cX18_isSure 51 = .ok (.iastore, 1) := by decide +kernel
theorem dX18_isSure_52 : decode cX18_isSure 52 = .ok (.dup, 1) := by decide +kernel
theorem dX18_isSure_53 : decode cX18_isSure 53 = .ok (.iconst 1, 1) := by decide +kernel
theorem dX18_isSure_54 : decode cX18_isSure 54 = .ok (.iload_n 2, 1) := by decide +kernel
theorem dX18_isSure_55 : decode cX18_isSure 55 = .ok (.iastore, 1) := by decide +kernel
theorem dX18_isSure_56 : decode cX18_isSure 56 = .ok (.dup, 1) := by decide +kernel
theorem dX18_isSure_57 : decode cX18_isSure 57 = .ok (.iconst 2, 1) := by decide +kernel
theorem dX18_isSure_58 : decode cX18_isSure 58 = .ok (.iload_n 3, 1) := by decide +kernel
theorem dX18_isSure_59 : decode cX18_isSure 59 = .ok (.iastore, 1) := by decide +kernel
theorem dX18_isSure_60 : decode cX18_isSure 60 = .ok (.dup, 1) := by decide +kernel
theorem dX18_isSure_61 : decode cX18_isSure 61 = .ok (.iconst 3, 1) := by decide +kernel
theorem dX18_isSure_62 : decode cX18_isSure 62 = .ok (.iload 4, 2) := by decide +kernel
theorem dX18_isSure_64 : decode cX18_isSure 64 = .ok (.iastore, 1) := by decide +kernel
theorem dX18_isSure_65 : decode cX18_isSure 65 = .ok (.astore 5, 2) := by decide +kernel
theorem dX18_isSure_67 : decode cX18_isSure 67 = .ok (.aload_n 0, 1) := by decide +kernel
theorem dX18_isSure_68 : decode cX18_isSure 68 = .ok (.aload 5, 2) := by decide +kernel
theorem dX18_isSure_70 : decode cX18_isSure 70 = .ok (.iconst (-1), 1) := by decide +kernel
theorem dX18_isSure_71 : decode cX18_isSure 71 = .ok (.invokevirtual 252, 3) := by decide +kernel
theorem dX18_isSure_74 : decode cX18_isSure 74 = .ok (.istore 6, 2) := by decide +kernel
theorem dX18_isSure_76 : decode cX18_isSure 76 = .ok (.aload_n 0, 1) := by decide +kernel
theorem dX18_isSure_77 : decode cX18_isSure 77 = .ok (.aload 5, 2) := by decide +kernel
theorem dX18_isSure_79 : decode cX18_isSure 79 = .ok (.iload 6, 2) := by decide +kernel
theorem dX18_isSure_81 : decode cX18_isSure 81 = .ok (.invokevirtual 252, 3) := by decide +kernel
theorem dX18_isSure_84 : decode cX18_isSure 84 = .ok (.istore 7, 2) := by decide +kernel
theorem dX18_isSure_86 : decode cX18_isSure 86 = .ok (.iload 7, 2) := by decide +kernel
theorem dX18_isSure_88 : decode cX18_isSure 88 = .ok (.iconst (-1), 1) := by decide +kernel
theorem dX18_isSure_89 : decode cX18_isSure 89 = .ok (.if_icmp .eq 24, 3) := by decide +kernel
theorem dX18_isSure_92 : decode cX18_isSure 92 = .ok (.aload_n 0, 1) := by decide +kernel
theorem dX18_isSure_93 : decode cX18_isSure 93 = .ok (.iload 7, 2) := by decide +kernel
theorem dX18_isSure_95 : decode cX18_isSure 95 = .ok (.aload 5, 2) := by decide +kernel
theorem dX18_isSure_97 : decode cX18_isSure 97 = .ok (.invokevirtual 248, 3) := by decide +kernel
theorem dX18_isSure_100 : decode cX18_isSure 100 = .ok (.iconst 2, 1) := by decide +kernel
theorem dX18_isSure_101 : decode cX18_isSure 101 = .ok (.aload_n 0, 1) := by decide +kernel
theorem dX18_isSure_102 : decode cX18_isSure 102 = .ok (.iload 6, 2) := by decide +kernel
theorem dX18_isSure_104 : decode cX18_isSure 104 = .ok (.aload 5, 2) := by decide +kernel
theorem dX18_isSure_106 : decode cX18_isSure 106 = .ok (.invokevirtual 248, 3) := by decide +kernel
theorem dX18_isSure_109 : decode cX18_isSure 109 = .ok (.imul, 1) := by decide +kernel
theorem dX18_isSure_110 : decode cX18_isSure 110 = .ok (.if_icmp .lt 7, 3) := by decide +kernel
theorem dX18_isSure_113 : decode cX18_isSure 113 = .ok (.iconst 1, 1) := by decide +kernel
theorem dX18_isSure_114 : decode cX18_isSure 114 = .ok (.goto 4, 3) := by decide +kernel
theorem dX18_isSure_117 : decode cX18_isSure 117 = .ok (.iconst 0, 1) := by decide +kernel
theorem dX18_isSure_118 : decode cX18_isSure 118 = .ok (.ireturn, 1) := by decide +kernel
set_option maxRecDepth 20000 in
theorem ggX18_scratch_X18_isPlace : GoodIn wsX18_scratch wsX18_isPlace := goodIn_r _ [9, 10, 11, 8, 12] (by decide +kernel) (by decide +kernel)
set_option maxRecDepth 20000 in
theorem gX18_scratch_X18_isPlace : GoodIn wsX18_scratch (va_wsS RX18 124 yX18_isPlace wsX18_isPlace) := goodIn_app (goodIn_of _ (by decide +kernel)) ggX18_scratch_X18_isPlace
set_option maxRecDepth 20000 in
theorem ggX18_scratch_X18_in : GoodIn wsX18_scratch wsX18_in := goodIn_r _ [12] (by decide +kernel) (by decide +kernel)
set_option maxRecDepth 20000 in
theorem gX18_scratch_X18_in : GoodIn wsX18_scratch (va_wsS RX18 70 yX18_in wsX18_in) := goodIn_app (goodIn_of _ (by decide +kernel)) ggX18_scratch_X18_in
set_option maxRecDepth 20000 in
theorem ggX18_scratch_X12_init : GoodIn wsX18_scratch wsX12_init := goodIn_r _ [15, 16, 17, 18, 19, 20, 419, 420] (by decide +kernel) (by decide +kernel)
set_option maxRecDepth 20000 in
theorem gX18_scratch_X12_init : GoodIn wsX18_scratch (wsX12_init) := ggX18_scratch_X12_init
set_option maxRecDepth 20000 in
theorem ggX18_scratch_X18_keeps : GoodIn wsX18_scratch wsX18_keeps := goodIn_ca (goodIn_r _ [24, 25, 26, 27, 28, 29, 30, 31, 32, 33, 34, 35, 36, 37, 38, 39, 40, 41, 42, 43, 44, 45, 46, 47, 48, 49, 17, 18, 50, 51, 52, 53, 54, 55, 56, 57, 58, 59, 60, 61, 62, 63, 64, 65, 66, 67, 68, 69, 70, 71, 72, 73, 74, 75, 76, 77, 78, 79, 80, 81, 82, 83, 84, 85, 86, 87, 88, 89, 90, 91, 92, 93, 94, 95, 96, 97, 98, 99, 100, 101, 102, 103, 104, 105, 106, 107, 108, 109, 110, 111, 112, 113, 114, 115, 116, 117, 118, 119, 120, 121, 122, 123, 124, 125, 126, 127, 128, 129, 130, 131, 132, 133, 134, 135, 136, 137, 138, 139, 140, 141, 142, 143, 144, 145, 146, 147, 148, 149, 150, 151, 152, 153, 154, 155, 156, 157, 158, 159, 160, 161, 162, 163, 164, 165, 166, 167, 168, 169, 170, 171, 172, 173, 174, 175, 176, 177, 178, 179, 180, 181, 182, 183, 184, 185, 186, 187, 188, 189, 190, 191, 192, 193, 194, 195, 196, 197, 198, 199, 200, 201, 202, 203, 204, 205, 206, 207, 208, 209, 210, 211, 212, 213, 214, 215, 216, 217, 218, 219, 220, 221, 222, 223, 224, 225, 226, 227, 228, 229, 230, 231, 232, 233, 234, 235, 236, 237, 238, 239, 240, 241, 242, 243, 244, 245, 246, 247, 248, 249, 250, 251, 252, 253, 254, 255, 256, 257, 258, 259, 260, 261, 262, 263, 264, 265, 266, 267, 268, 269, 270, 271, 272, 273, 274, 275, 276, 277, 278, 279, 280, 281, 282, 283, 284, 285, 286, 287, 288, 289, 290, 291, 292, 293, 294, 295, 296, 297, 298, 299, 300, 301, 302, 303, 304, 305, 306, 307, 308, 309, 310, 311, 312, 313, 314, 315, 316, 317, 318, 319, 320, 321, 322, 323, 324, 325, 326, 327, 328, 329, 330, 331, 332, 333, 334, 335, 336, 337, 338, 339, 340, 341, 342, 343, 344, 345, 346, 347, 348, 349, 350, 351, 352, 353, 354, 355, 356, 357, 358, 359, 360, 361, 362, 363, 364, 365, 366, 367, 368, 11, 8, 12, 369, 370, 371, 372, 373, 374, 375, 376, 377, 378, 379, 380, 381, 382, 383, 384, 385, 386, 387, 388, 389, 390, 391, 392, 393, 394, 395, 396, 397, 398, 399, 1, 400, 401, 402, 403, 404, 405, 406, 407, 408, 409, 410, 411, 412, 413, 414, 415, 416, 417, 418, 421, 422, 423, 424, 425, 426, 427, 428, 429, 430, 431, 432, 433, 434, 435, 436, 437, 438, 439, 440, 441, 419, 420, 442, 443, 444, 445, 446, 447, 448, 449, 450, 451, 452, 453, 454, 455, 456, 457] (by decide +kernel) (by decide +kernel)) (goodIn_sub (fun _ h => List.mem_cons_of_mem _ (List.mem_append_right _ h)) (by decide +kernel))
set_option maxRecDepth 20000 in
theorem gX18_scratch_X18_keeps : GoodIn wsX18_scratch (wsV RX18 133 RX18 yX18_keeps wsX18_keeps) := goodIn_app (goodIn_of _ (by decide +kernel)) ggX18_scratch_X18_keeps
set_option maxRecDepth 20000 in
theorem ggX18_scratch_X18_fails : GoodIn wsX18_scratch wsX18_fails := goodIn_r _ [399, 1, 402, 403, 404, 405, 406, 407, 408, 409, 410, 411, 412, 413, 414, 415, 416, 417, 418] (by decide +kernel) (by decide +kernel)
set_option maxRecDepth 20000 in
theorem gX18_scratch_X18_fails : GoodIn wsX18_scratch (wsV RX18 88 RX18 yX18_fails wsX18_fails) := goodIn_app (goodIn_of _ (by decide +kernel)) ggX18_scratch_X18_fails
theorem dX18_scratch_0 : decode cX18_scratch 0 = .ok (.aload_n 0, 1) := by decide +kernel
theorem dX18_scratch_1 : decode cX18_scratch 1 = .ok (.iconst 0, 1) := by decide +kernel
theorem dX18_scratch_2 : decode cX18_scratch 2 = .ok (.putfield 67, 3) := by decide +kernel
theorem dX18_scratch_5 : decode cX18_scratch 5 = .ok (.iload_n 1, 1) := by decide +kernel
theorem dX18_scratch_6 : decode cX18_scratch 6 = .ok (.iload_n 2, 1) := by decide +kernel
theorem dX18_scratch_7 : decode cX18_scratch 7 = .ok (.invokestatic 124, 3) := by decide +kernel
theorem dX18_scratch_10 : decode cX18_scratch 10 = .ok (.ifCond .eq 47, 3) := by decide +kernel
theorem dX18_scratch_13 : decode cX18_scratch 13 = .ok (.iload_n 3, 1) := by decide +kernel
theorem dX18_scratch_14 : decode cX18_scratch 14 = .ok (.iconst 1, 1) := by decide +kernel
theorem dX18_scratch_15 : decode cX18_scratch 15 = .ok (.sipush 999, 3) := by decide +kernel
theorem dX18_scratch_18 : decode cX18_scratch 18 = .ok (.invokestatic 70, 3) := by decide +kernel
theorem dX18_scratch_21 : decode cX18_scratch 21 = .ok (.ifCond .eq 36, 3) := by decide +kernel
theorem dX18_scratch_24 : decode cX18_scratch 24 = .ok (.aload_n 0, 1) := by decide +kernel
theorem dX18_scratch_25 : decode cX18_scratch 25 = .ok (.new 128, 3) := by decide +kernel
theorem dX18_scratch_28 : decode cX18_scratch 28 = .ok (.dup, 1) := by decide +kernel
theorem dX18_scratch_29 : decode cX18_scratch 29 = .ok (.bipush 115, 2) := by decide +kernel
theorem dX18_scratch_31 : decode cX18_scratch 31 = .ok (.iconst 2, 1) := by decide +kernel
theorem dX18_scratch_32 : decode cX18_scratch 32 = .ok (.newarray .int, 2) := by decide +kernel
theorem dX18_scratch_34 : decode cX18_scratch 34 = .ok (.dup, 1) := by decide +kernel
theorem dX18_scratch_35 : decode cX18_scratch 35 = .ok (.iconst 0, 1) := by decide +kernel
theorem dX18_scratch_36 : decode cX18_scratch 36 = .ok (.bipush 8, 2) := by decide +kernel
theorem dX18_scratch_38 : decode cX18_scratch 38 = .ok (.iload_n 2, 1) := by decide +kernel
theorem dX18_scratch_39 : decode cX18_scratch 39 = .ok (.imul, 1) := by decide +kernel
theorem dX18_scratch_40 : decode cX18_scratch 40 = .ok (.iload_n 1, 1) := by decide +kernel
theorem dX18_scratch_41 : decode cX18_scratch 41 = .ok (.iadd, 1) := by decide +kernel
theorem dX18_scratch_42 : decode cX18_scratch 42 = .ok (.iastore, 1) := by decide +kernel
theorem dX18_scratch_43 : decode cX18_scratch 43 = .ok (.dup, 1) := by decide +kernel
theorem dX18_scratch_44 : decode cX18_scratch 44 = .ok (.iconst 1, 1) := by decide +kernel
theorem dX18_scratch_45 : decode cX18_scratch 45 = .ok (.iload_n 3, 1) := by decide +kernel
theorem dX18_scratch_46 : decode cX18_scratch 46 = .ok (.iastore, 1) := by decide +kernel
theorem dX18_scratch_47 : decode cX18_scratch 47 = .ok (.invokespecial 130, 3) := by decide +kernel
theorem dX18_scratch_50 : decode cX18_scratch 50 = .ok (.iconst 2, 1) := by decide +kernel
theorem dX18_scratch_51 : decode cX18_scratch 51 = .ok (.invokevirtual 133, 3) := by decide +kernel
theorem dX18_scratch_54 : decode cX18_scratch 54 = .ok (.goto 8, 3) := by decide +kernel
theorem dX18_scratch_57 : decode cX18_scratch 57 = .ok (.aload_n 0, 1) := by decide +kernel
theorem dX18_scratch_58 : decode cX18_scratch 58 = .ok (.iconst 1, 1) := by decide +kernel
theorem dX18_scratch_59 : decode cX18_scratch 59 = .ok (.invokevirtual 88, 3) := by decide +kernel
theorem dX18_scratch_62 : decode cX18_scratch 62 = .ok (.ireturn, 1) := by decide +kernel
set_option maxRecDepth 20000 in
theorem ggX18_scratches_Jx4a65c_size_8abf5 : GoodIn wsX18_scratches wsJx4a65c_size_8abf5 := goodIn_r _ [7, 8, 32, 33, 34] (by decide +kernel) (by decide +kernel)
set_option maxRecDepth 20000 in
theorem gX18_scratches_Jx4a65c_size_8abf5_f74Jx4a65c : GoodIn wsX18_scratches (va_wsF RX18 74 RJx4a65c ⟨"java/util/List", "size", "()I"⟩ yJx4a65c_size_8abf5 wsJx4a65c_size_8abf5) := goodIn_app (goodIn_of _ (by decide +kernel)) ggX18_scratches_Jx4a65c_size_8abf5
theorem dX18_scratches_0 : decode cX18_scratches 0 = .ok (.aload_n 0, 1) := by decide +kernel
theorem dX18_scratches_1 : decode cX18_scratches 1 = .ok (.iconst 0, 1) := by decide +kernel
theorem dX18_scratches_2 : decode cX18_scratches 2 = .ok (.putfield 67, 3) := by decide +kernel
theorem dX18_scratches_5 : decode cX18_scratches 5 = .ok (.aload_n 0, 1) := by decide +kernel
theorem dX18_scratches_6 : decode cX18_scratches 6 = .ok (.getfield 25, 3) := by decide +kernel
theorem dX18_scratches_9 : decode cX18_scratches 9 = .ok (.getfield 256, 3) := by decide +kernel
theorem dX18_scratches_12 : decode cX18_scratches 12 = .ok (.invokeinterface 74 1, 5) := by decide +kernel
theorem dX18_scratches_17 : decode cX18_scratches 17 = .ok (.ireturn, 1) := by decide +kernel
set_option maxRecDepth 20000 in
theorem ggX18_isScratch_Jx4a65c_size_8abf5 : GoodIn wsX18_isScratch wsJx4a65c_size_8abf5 := goodIn_r _ [6, 7, 35, 36, 37] (by decide +kernel) (by decide +kernel)
set_option maxRecDepth 20000 in
theorem gX18_isScratch_Jx4a65c_size_8abf5_f74Jx4a65c : GoodIn wsX18_isScratch (va_wsF RX18 74 RJx4a65c ⟨"java/util/List", "size", "()I"⟩ yJx4a65c_size_8abf5 wsJx4a65c_size_8abf5) := goodIn_app (goodIn_of _ (by decide +kernel)) ggX18_isScratch_Jx4a65c_size_8abf5
set_option maxRecDepth 20000 in
theorem ggX18_isScratch_X18_in : GoodIn wsX18_isScratch wsX18_in := goodIn_r _ [11] (by decide +kernel) (by decide +kernel)
set_option maxRecDepth 20000 in
theorem gX18_isScratch_X18_in : GoodIn wsX18_isScratch (va_wsS RX18 70 yX18_in wsX18_in) := goodIn_app (goodIn_of _ (by decide +kernel)) ggX18_isScratch_X18_in
theorem dX18_isScratch_0 : decode cX18_isScratch 0 = .ok (.iload_n 1, 1) := by decide +kernel
theorem dX18_isScratch_1 : decode cX18_isScratch 1 = .ok (.iconst 0, 1) := by decide +kernel
theorem dX18_isScratch_2 : decode cX18_isScratch 2 = .ok (.aload_n 0, 1) := by decide +kernel
theorem dX18_isScratch_3 : decode cX18_isScratch 3 = .ok (.getfield 25, 3) := by decide +kernel
theorem dX18_isScratch_6 : decode cX18_isScratch 6 = .ok (.getfield 256, 3) := by decide +kernel
theorem dX18_isScratch_9 : decode cX18_isScratch 9 = .ok (.invokeinterface 74 1, 5) := by decide +kernel
theorem dX18_isScratch_14 : decode cX18_isScratch 14 = .ok (.iconst 1, 1) := by decide +kernel
theorem dX18_isScratch_15 : decode cX18_isScratch 15 = .ok (.isub, 1) := by decide +kernel
theorem dX18_isScratch_16 : decode cX18_isScratch 16 = .ok (.invokestatic 70, 3) := by decide +kernel
theorem dX18_isScratch_19 : decode cX18_isScratch 19 = .ok (.ireturn, 1) := by decide +kernel
set_option maxRecDepth 20000 in
theorem ggX18_liesOver_X18_isScratch : GoodIn wsX18_liesOver wsX18_isScratch := goodIn_r _ [8, 1, 9, 10, 11, 12, 13, 14, 15, 16, 7, 17, 39, 40, 41, 42, 43, 44, 45, 46, 47, 48, 49, 50, 51, 52, 53, 54, 55, 56, 57, 58, 59, 60, 61, 67, 68, 69] (by decide +kernel) (by decide +kernel)
set_option maxRecDepth 20000 in
theorem gX18_liesOver_X18_isScratch : GoodIn wsX18_liesOver (wsV RX18 259 RX18 yX18_isScratch wsX18_isScratch) := goodIn_app (goodIn_of _ (by decide +kernel)) ggX18_liesOver_X18_isScratch
set_option maxRecDepth 20000 in
theorem ggX18_liesOver_X18_failsBoolean : GoodIn wsX18_liesOver wsX18_failsBoolean := goodIn_r _ [21, 3, 39, 40, 41, 42, 43, 44, 45, 46, 47, 48, 49, 50, 51, 52, 53, 54, 55] (by decide +kernel) (by decide +kernel)
set_option maxRecDepth 20000 in
theorem gX18_liesOver_X18_failsBoolean : GoodIn wsX18_liesOver (wsV RX18 104 RX18 yX18_failsBoolean wsX18_failsBoolean) := goodIn_app (goodIn_of _ (by decide +kernel)) ggX18_liesOver_X18_failsBoolean
set_option maxRecDepth 20000 in
theorem ggX18_liesOver_Jx4a65c_get_915e3 : GoodIn wsX18_liesOver wsJx4a65c_get_915e3 := goodIn_r _ [25, 14, 26, 27, 28, 29, 30, 31, 32, 33, 34, 35, 36, 12, 37, 38, 67, 68, 69] (by decide +kernel) (by decide +kernel)
set_option maxRecDepth 20000 in
theorem gX18_liesOver_Jx4a65c_get_915e3_f148Jx4a65c : GoodIn wsX18_liesOver (va_wsF RX18 148 RJx4a65c ⟨"java/util/List", "get", "(I)Ljava/lang/Object;"⟩ yJx4a65c_get_915e3 wsJx4a65c_get_915e3) := goodIn_app (goodIn_of _ (by decide +kernel)) ggX18_liesOver_Jx4a65c_get_915e3
set_option maxRecDepth 20000 in
theorem ggX18_liesOver_Jx4a65c_size_8abf5 : GoodIn wsX18_liesOver wsJx4a65c_size_8abf5 := goodIn_r _ [13, 14, 67, 68, 69] (by decide +kernel) (by decide +kernel)
set_option maxRecDepth 20000 in
theorem gX18_liesOver_Jx4a65c_size_8abf5_f74Jx4a65c : GoodIn wsX18_liesOver (va_wsF RX18 74 RJx4a65c ⟨"java/util/List", "size", "()I"⟩ yJx4a65c_size_8abf5 wsJx4a65c_size_8abf5) := goodIn_app (goodIn_of _ (by decide +kernel)) ggX18_liesOver_Jx4a65c_size_8abf5
set_option maxRecDepth 20000 in
theorem ggX18_liesOver_X18_in : GoodIn wsX18_liesOver wsX18_in := goodIn_r _ [17] (by decide +kernel) (by decide +kernel)
set_option maxRecDepth 20000 in
theorem gX18_liesOver_X18_in : GoodIn wsX18_liesOver (va_wsS RX18 70 yX18_in wsX18_in) := goodIn_app (goodIn_of _ (by decide +kernel)) ggX18_liesOver_X18_in
theorem dX18_liesOver_0 : decode cX18_liesOver 0 = .ok (.aload_n 0, 1) := by decide +kernel
theorem dX18_liesOver_1 : decode cX18_liesOver 1 = .ok (.iload_n 1, 1) := by decide +kernel
theorem dX18_liesOver_2 : decode cX18_liesOver 2 = .ok (.invokevirtual 259, 3) := by decide +kernel
theorem dX18_liesOver_5 : decode cX18_liesOver 5 = .ok (.ifCond .ne 9, 3) := by decide +kernel
theorem dX18_liesOver_8 : decode cX18_liesOver 8 = .ok (.aload_n 0, 1) := by decide +kernel
theorem dX18_liesOver_9 : decode cX18_liesOver 9 = .ok (.iconst 1, 1) := by decide +kernel
theorem dX18_liesOver_10 : decode cX18_liesOver 10 = .ok (.invokevirtual 104, 3) := by decide +kernel
theorem dX18_liesOver_13 : decode cX18_liesOver 13 = .ok (.ireturn, 1) := by decide +kernel
theorem dX18_liesOver_14 : decode cX18_liesOver 14 = .ok (.aload_n 0, 1) := by decide +kernel
theorem dX18_liesOver_15 : decode cX18_liesOver 15 = .ok (.getfield 25, 3) := by decide +kernel
theorem dX18_liesOver_18 : decode cX18_liesOver 18 = .ok (.getfield 256, 3) := by decide +kernel
theorem dX18_liesOver_21 : decode cX18_liesOver 21 = .ok (.iload_n 1, 1) := by decide +kernel
theorem dX18_liesOver_22 : decode cX18_liesOver 22 = .ok (.invokeinterface 148 2, 5) := by decide +kernel
theorem dX18_liesOver_27 : decode cX18_liesOver 27 = .ok (.checkcast 262, 3) := by decide +kernel
theorem dX18_liesOver_30 : decode cX18_liesOver 30 = .ok (.astore_n 3, 1) := by decide +kernel
theorem dX18_liesOver_31 : decode cX18_liesOver 31 = .ok (.iload_n 2, 1) := by decide +kernel
theorem dX18_liesOver_32 : decode cX18_liesOver 32 = .ok (.iconst 0, 1) := by decide +kernel
theorem dX18_liesOver_33 : decode cX18_liesOver 33 = .ok (.aload_n 0, 1) := by decide +kernel
theorem dX18_liesOver_34 : decode cX18_liesOver 34 = .ok (.getfield 25, 3) := by decide +kernel
theorem dX18_liesOver_37 : decode cX18_liesOver 37 = .ok (.getfield 137, 3) := by decide +kernel
theorem dX18_liesOver_40 : decode cX18_liesOver 40 = .ok (.aload_n 3, 1) := by decide +kernel
theorem dX18_liesOver_41 : decode cX18_liesOver 41 = .ok (.getfield 264, 3) := by decide +kernel
theorem dX18_liesOver_44 : decode cX18_liesOver 44 = .ok (.aaload, 1) := by decide +kernel
theorem dX18_liesOver_45 : decode cX18_liesOver 45 = .ok (.getfield 141, 3) := by decide +kernel
theorem dX18_liesOver_48 : decode cX18_liesOver 48 = .ok (.invokeinterface 74 1, 5) := by decide +kernel
theorem dX18_liesOver_53 : decode cX18_liesOver 53 = .ok (.iconst 1, 1) := by decide +kernel
theorem dX18_liesOver_54 : decode cX18_liesOver 54 = .ok (.isub, 1) := by decide +kernel
theorem dX18_liesOver_55 : decode cX18_liesOver 55 = .ok (.invokestatic 70, 3) := by decide +kernel
theorem dX18_liesOver_58 : decode cX18_liesOver 58 = .ok (.ifCond .ne 9, 3) := by decide +kernel
theorem dX18_liesOver_61 : decode cX18_liesOver 61 = .ok (.aload_n 0, 1) := by decide +kernel
theorem dX18_liesOver_62 : decode cX18_liesOver 62 = .ok (.iconst 2, 1) := by decide +kernel
theorem dX18_liesOver_63 : decode cX18_liesOver 63 = .ok (.invokevirtual 104, 3) := by decide +kernel
theorem dX18_liesOver_66 : decode cX18_liesOver 66 = .ok (.ireturn, 1) := by decide +kernel
theorem dX18_liesOver_67 : decode cX18_liesOver 67 = .ok (.aload_n 0, 1) := by decide +kernel
theorem dX18_liesOver_68 : decode cX18_liesOver 68 = .ok (.iconst 0, 1) := by decide +kernel
theorem dX18_liesOver_69 : decode cX18_liesOver 69 = .ok (.putfield 67, 3) := by decide +kernel
theorem dX18_liesOver_72 : decode cX18_liesOver 72 = .ok (.iload_n 2, 1) := by decide +kernel
theorem dX18_liesOver_73 : decode cX18_liesOver 73 = .ok (.aload_n 3, 1) := by decide +kernel
theorem dX18_liesOver_74 : decode cX18_liesOver 74 = .ok (.getfield 267, 3) := by decide +kernel
theorem dX18_liesOver_77 : decode cX18_liesOver 77 = .ok (.if_icmp .lt 7, 3) := by decide +kernel
theorem dX18_liesOver_80 : decode cX18_liesOver 80 = .ok (.iconst 1, 1) := by decide +kernel
theorem dX18_liesOver_81 : decode cX18_liesOver 81 = .ok (.goto 4, 3) := by decide +kernel
theorem dX18_liesOver_84 : decode cX18_liesOver 84 = .ok (.iconst 0, 1) := by decide +kernel
theorem dX18_liesOver_85 : decode cX18_liesOver 85 = .ok (.ireturn, 1) := by decide +kernel
set_option maxRecDepth 20000 in
theorem ggX18_later_X18_isScratch : GoodIn wsX18_later wsX18_isScratch := goodIn_r _ [12, 2, 13, 14, 15, 16, 17, 18, 19, 20, 11, 21, 43, 44, 45, 46, 47, 48, 49, 50, 51, 52, 53, 54, 55, 56, 57, 58, 59, 60, 61, 62, 63, 64, 65, 71, 72, 73] (by decide +kernel) (by decide +kernel)
set_option maxRecDepth 20000 in
theorem gX18_later_X18_isScratch : GoodIn wsX18_later (wsV RX18 259 RX18 yX18_isScratch wsX18_isScratch) := goodIn_app (goodIn_of _ (by decide +kernel)) ggX18_later_X18_isScratch
set_option maxRecDepth 20000 in
theorem ggX18_later_X18_fails : GoodIn wsX18_later wsX18_fails := goodIn_r _ [25, 1, 43, 44, 45, 46, 47, 48, 49, 50, 51, 52, 53, 54, 55, 56, 57, 58, 59] (by decide +kernel) (by decide +kernel)
set_option maxRecDepth 20000 in
theorem gX18_later_X18_fails : GoodIn wsX18_later (wsV RX18 88 RX18 yX18_fails wsX18_fails) := goodIn_app (goodIn_of _ (by decide +kernel)) ggX18_later_X18_fails
set_option maxRecDepth 20000 in
theorem ggX18_later_Jx4a65c_get_915e3 : GoodIn wsX18_later wsJx4a65c_get_915e3 := goodIn_r _ [29, 18, 30, 31, 32, 33, 34, 35, 36, 37, 38, 39, 40, 16, 41, 42, 71, 72, 73] (by decide +kernel) (by decide +kernel)
set_option maxRecDepth 20000 in
theorem gX18_later_Jx4a65c_get_915e3_f148Jx4a65c : GoodIn wsX18_later (va_wsF RX18 148 RJx4a65c ⟨"java/util/List", "get", "(I)Ljava/lang/Object;"⟩ yJx4a65c_get_915e3 wsJx4a65c_get_915e3) := goodIn_app (goodIn_of _ (by decide +kernel)) ggX18_later_Jx4a65c_get_915e3
set_option maxRecDepth 20000 in
theorem ggX18_later_Jx4a65c_size_8abf5 : GoodIn wsX18_later wsJx4a65c_size_8abf5 := goodIn_r _ [17, 18, 71, 72, 73] (by decide +kernel) (by decide +kernel)
set_option maxRecDepth 20000 in
theorem gX18_later_Jx4a65c_size_8abf5_f74Jx4a65c : GoodIn wsX18_later (va_wsF RX18 74 RJx4a65c ⟨"java/util/List", "size", "()I"⟩ yJx4a65c_size_8abf5 wsJx4a65c_size_8abf5) := goodIn_app (goodIn_of _ (by decide +kernel)) ggX18_later_Jx4a65c_size_8abf5
theorem dX18_later_0 : decode cX18_later 0 = .ok (.aload_n 0, 1) := by decide +kernel
theorem dX18_later_1 : decode cX18_later 1 = .ok (.iconst 0, 1) := by decide +kernel
theorem dX18_later_2 : decode cX18_later 2 = .ok (.putfield 67, 3) := by decide +kernel
theorem dX18_later_5 : decode cX18_later 5 = .ok (.aload_n 0, 1) := by decide +kernel
theorem dX18_later_6 : decode cX18_later 6 = .ok (.iload_n 1, 1) := by decide +kernel
theorem dX18_later_7 : decode cX18_later 7 = .ok (.invokevirtual 259, 3) := by decide +kernel
theorem dX18_later_10 : decode cX18_later 10 = .ok (.ifCond .eq 11, 3) := by decide +kernel
theorem dX18_later_13 : decode cX18_later 13 = .ok (.aload_n 0, 1) := by decide +kernel
theorem dX18_later_14 : decode cX18_later 14 = .ok (.iload_n 2, 1) := by decide +kernel
theorem dX18_later_15 : decode cX18_later 15 = .ok (.invokevirtual 259, 3) := by decide +kernel
theorem dX18_later_18 : decode cX18_later 18 = .ok (.ifCond .ne 9, 3) := by decide +kernel
theorem dX18_later_21 : decode cX18_later 21 = .ok (.aload_n 0, 1) := by decide +kernel
theorem dX18_later_22 : decode cX18_later 22 = .ok (.iconst 1, 1) := by decide +kernel
theorem dX18_later_23 : decode cX18_later 23 = .ok (.invokevirtual 88, 3) := by decide +kernel
theorem dX18_later_26 : decode cX18_later 26 = .ok (.ireturn, 1) := by decide +kernel
theorem dX18_later_27 : decode cX18_later 27 = .ok (.aload_n 0, 1) := by decide +kernel
theorem dX18_later_28 : decode cX18_later 28 = .ok (.getfield 25, 3) := by decide +kernel
theorem dX18_later_31 : decode cX18_later 31 = .ok (.getfield 256, 3) := by decide +kernel
theorem dX18_later_34 : decode cX18_later 34 = .ok (.iload_n 1, 1) := by decide +kernel
theorem dX18_later_35 : decode cX18_later 35 = .ok (.invokeinterface 148 2, 5) := by decide +kernel
theorem dX18_later_40 : decode cX18_later 40 = .ok (.checkcast 262, 3) := by decide +kernel
theorem dX18_later_43 : decode cX18_later 43 = .ok (.astore_n 3, 1) := by decide +kernel
theorem dX18_later_44 : decode cX18_later 44 = .ok (.aload_n 0, 1) := by decide +kernel
theorem dX18_later_45 : decode cX18_later 45 = .ok (.getfield 25, 3) := by decide +kernel
theorem dX18_later_48 : decode cX18_later 48 = .ok (.getfield 256, 3) := by decide +kernel
theorem dX18_later_51 : decode cX18_later 51 = .ok (.iload_n 2, 1) := by decide +kernel
theorem dX18_later_52 : decode cX18_later 52 = .ok (.invokeinterface 148 2, 5) := by decide +kernel
theorem dX18_later_57 : decode cX18_later 57 = .ok (.checkcast 262, 3) := by decide +kernel
theorem dX18_later_60 : decode cX18_later 60 = .ok (.astore 4, 2) := by decide +kernel
theorem dX18_later_62 : decode cX18_later 62 = .ok (.aload_n 3, 1) := by decide +kernel
theorem dX18_later_63 : decode cX18_later 63 = .ok (.getfield 264, 3) := by decide +kernel
theorem dX18_later_66 : decode cX18_later 66 = .ok (.aload 4, 2) := by decide +kernel
theorem dX18_later_68 : decode cX18_later 68 = .ok (.getfield 264, 3) := by decide +kernel
theorem dX18_later_71 : decode cX18_later 71 = .ok (.if_icmp .ne 54, 3) := by decide +kernel
theorem dX18_later_74 : decode cX18_later 74 = .ok (.aload_n 3, 1) := by decide +kernel
theorem dX18_later_75 : decode cX18_later 75 = .ok (.getfield 267, 3) := by decide +kernel
theorem dX18_later_78 : decode cX18_later 78 = .ok (.aload 4, 2) := by decide +kernel
theorem dX18_later_80 : decode cX18_later 80 = .ok (.getfield 267, 3) := by decide +kernel
theorem dX18_later_83 : decode cX18_later 83 = .ok (.if_icmp .eq 42, 3) := by decide +kernel
theorem dX18_later_86 : decode cX18_later 86 = .ok (.aload_n 0, 1) := by decide +kernel
theorem dX18_later_87 : decode cX18_later 87 = .ok (.getfield 25, 3) := by decide +kernel
theorem dX18_later_90 : decode cX18_later 90 = .ok (.getfield 137, 3) := by decide +kernel
theorem dX18_later_93 : decode cX18_later 93 = .ok (.aload_n 3, 1) := by decide +kernel
theorem dX18_later_94 : decode cX18_later 94 = .ok (.getfield 264, 3) := by decide +kernel
theorem dX18_later_97 : decode cX18_later 97 = .ok (.aaload, 1) := by decide +kernel
theorem dX18_later_98 : decode cX18_later 98 = .ok (.getfield 141, 3) := by decide +kernel
theorem dX18_later_101 : decode cX18_later 101 = .ok (.invokeinterface 74 1, 5) := by decide +kernel
theorem dX18_later_106 : decode cX18_later 106 = .ok (.aload_n 3, 1) := by decide +kernel
theorem dX18_later_107 : decode cX18_later 107 = .ok (.getfield 267, 3) := by decide +kernel
theorem dX18_later_110 : decode cX18_later 110 = .ok (.aload 4, 2) := by decide +kernel
theorem dX18_later_112 : decode cX18_later 112 = .ok (.getfield 267, 3) := by decide +kernel
theorem dX18_later_115 : decode cX18_later 115 = .ok (.invokestatic 238, 3) := by decide +kernel
theorem dX18_later_118 : decode cX18_later 118 = .ok (.if_icmp .le 7, 3) := by decide +kernel
theorem dX18_later_121 : decode cX18_later 121 = .ok (.iconst 1, 1) := by decide +kernel
theorem dX18_later_122 : decode cX18_later 122 = .ok (.goto 4, 3) := by decide +kernel
theorem dX18_later_125 : decode cX18_later 125 = .ok (.iconst 0, 1) := by decide +kernel
theorem dX18_later_126 : decode cX18_later 126 = .ok (.istore 5, 2) := by decide +kernel
theorem dX18_later_128 : decode cX18_later 128 = .ok (.iload 5, 2) := by decide +kernel
theorem dX18_later_130 : decode cX18_later 130 = .ok (.ifCond .ne 11, 3) := by decide +kernel
theorem dX18_later_133 : decode cX18_later 133 = .ok (.aload_n 0, 1) := by decide +kernel
theorem dX18_later_134 : decode cX18_later 134 = .ok (.iconst 2, 1) := by decide +kernel
theorem dX18_later_135 : decode cX18_later 135 = .ok (.invokevirtual 88, 3) := by decide +kernel
theorem dX18_later_138 : decode cX18_later 138 = .ok (.goto 20, 3) := by decide +kernel
theorem dX18_later_141 : decode cX18_later 141 = .ok (.aload_n 3, 1) := by decide +kernel
theorem dX18_later_142 : decode cX18_later 142 = .ok (.getfield 267, 3) := by decide +kernel
theorem dX18_later_145 : decode cX18_later 145 = .ok (.aload 4, 2) := by decide +kernel
theorem dX18_later_147 : decode cX18_later 147 = .ok (.getfield 267, 3) := by decide +kernel
theorem dX18_later_150 : decode cX18_later 150 = .ok (.if_icmp .le 7, 3) := by decide +kernel
theorem dX18_later_153 : decode cX18_later 153 = .ok (.iload_n 1, 1) := by decide +kernel
theorem dX18_later_154 : decode cX18_later 154 = .ok (.goto 4, 3) := by decide +kernel
theorem dX18_later_157 : decode cX18_later 157 = .ok (.iload_n 2, 1) := by decide +kernel
theorem dX18_later_158 : decode cX18_later 158 = .ok (.ireturn, 1) := by decide +kernel
set_option maxRecDepth 20000 in
theorem ggX18_solvent_X18_in : GoodIn wsX18_solvent wsX18_in := goodIn_r _ [7] (by decide +kernel) (by decide +kernel)
set_option maxRecDepth 20000 in
theorem gX18_solvent_X18_in : GoodIn wsX18_solvent (va_wsS RX18 70 yX18_in wsX18_in) := goodIn_app (goodIn_of _ (by decide +kernel)) ggX18_solvent_X18_in
set_option maxRecDepth 20000 in
theorem ggX18_solvent_X18_fails : GoodIn wsX18_solvent wsX18_fails := goodIn_r _ [11, 1, 72, 73, 74, 75, 76, 77, 78, 79, 80, 81, 82, 83, 84, 85, 86, 87, 88] (by decide +kernel) (by decide +kernel)
set_option maxRecDepth 20000 in
theorem gX18_solvent_X18_fails : GoodIn wsX18_solvent (wsV RX18 88 RX18 yX18_fails wsX18_fails) := goodIn_app (goodIn_of _ (by decide +kernel)) ggX18_solvent_X18_fails
set_option maxRecDepth 20000 in
theorem ggX18_solvent_Jx4a65c_size_8abf5 : GoodIn wsX18_solvent wsJx4a65c_size_8abf5 := goodIn_r _ [16, 17, 89, 90, 91] (by decide +kernel) (by decide +kernel)
set_option maxRecDepth 20000 in
theorem gX18_solvent_Jx4a65c_size_8abf5_f74Jx4a65c : GoodIn wsX18_solvent (va_wsF RX18 74 RJx4a65c ⟨"java/util/List", "size", "()I"⟩ yJx4a65c_size_8abf5 wsJx4a65c_size_8abf5) := goodIn_app (goodIn_of _ (by decide +kernel)) ggX18_solvent_Jx4a65c_size_8abf5
set_option maxRecDepth 20000 in
theorem ggX18_solvent_Jx4a65c_add_9ea2d : GoodIn wsX18_solvent wsJx4a65c_add_9ea2d := goodIn_r _ [21, 22, 23, 24, 17, 25, 26, 27, 15, 28, 29, 30, 31, 32, 33, 34, 35, 36, 37, 38, 39, 40, 41, 42, 43, 44, 45, 46, 47, 48, 49, 50, 51, 52, 53, 54, 55, 56, 57, 58, 59, 60, 61, 62, 63, 64, 65, 66, 67, 68, 69, 70, 71, 89, 90, 91] (by decide +kernel) (by decide +kernel)
set_option maxRecDepth 20000 in
theorem gX18_solvent_Jx4a65c_add_9ea2d_f96Jx4a65c : GoodIn wsX18_solvent (va_wsF RX18 96 RJx4a65c ⟨"java/util/List", "add", "(Ljava/lang/Object;)Z"⟩ yJx4a65c_add_9ea2d wsJx4a65c_add_9ea2d) := goodIn_app (goodIn_of _ (by decide +kernel)) ggX18_solvent_Jx4a65c_add_9ea2d
theorem dX18_solvent_0 : decode cX18_solvent 0 = .ok (.aload_n 0, 1) := by decide +kernel
theorem dX18_solvent_1 : decode cX18_solvent 1 = .ok (.iconst 0, 1) := by decide +kernel
theorem dX18_solvent_2 : decode cX18_solvent 2 = .ok (.putfield 67, 3) := by decide +kernel
theorem dX18_solvent_5 : decode cX18_solvent 5 = .ok (.iload_n 1, 1) := by decide +kernel
theorem dX18_solvent_6 : decode cX18_solvent 6 = .ok (.iconst 1, 1) := by decide +kernel
theorem dX18_solvent_7 : decode cX18_solvent 7 = .ok (.bipush 9, 2) := by decide +kernel
theorem dX18_solvent_9 : decode cX18_solvent 9 = .ok (.invokestatic 70, 3) := by decide +kernel
theorem dX18_solvent_12 : decode cX18_solvent 12 = .ok (.ifCond .eq 13, 3) := by decide +kernel
theorem dX18_solvent_15 : decode cX18_solvent 15 = .ok (.iload_n 2, 1) := by decide +kernel
theorem dX18_solvent_16 : decode cX18_solvent 16 = .ok (.iconst 1, 1) := by decide +kernel
theorem dX18_solvent_17 : decode cX18_solvent 17 = .ok (.bipush 20, 2) := by decide +kernel
theorem dX18_solvent_19 : decode cX18_solvent 19 = .ok (.invokestatic 70, 3) := by decide +kernel
theorem dX18_solvent_22 : decode cX18_solvent 22 = .ok (.ifCond .ne 9, 3) := by decide +kernel
theorem dX18_solvent_25 : decode cX18_solvent 25 = .ok (.aload_n 0, 1) := by decide +kernel
theorem dX18_solvent_26 : decode cX18_solvent 26 = .ok (.iconst 1, 1) := by decide +kernel
theorem dX18_solvent_27 : decode cX18_solvent 27 = .ok (.invokevirtual 88, 3) := by decide +kernel
theorem dX18_solvent_30 : decode cX18_solvent 30 = .ok (.ireturn, 1) := by decide +kernel
theorem dX18_solvent_31 : decode cX18_solvent 31 = .ok (.aload_n 0, 1) := by decide +kernel
theorem dX18_solvent_32 : decode cX18_solvent 32 = .ok (.getfield 58, 3) := by decide +kernel
theorem dX18_solvent_35 : decode cX18_solvent 35 = .ok (.invokeinterface 74 1, 5) := by decide +kernel
theorem dX18_solvent_40 : decode cX18_solvent 40 = .ok (.bipush 6, 2) := by decide +kernel
theorem dX18_solvent_42 : decode cX18_solvent 42 = .ok (.if_icmp .ne 9, 3) := by decide +kernel
theorem dX18_solvent_45 : decode cX18_solvent 45 = .ok (.aload_n 0, 1) := by decide +kernel
theorem dX18_solvent_46 : decode cX18_solvent 46 = .ok (.iconst 2, 1) := by decide +kernel
theorem dX18_solvent_47 : decode cX18_solvent 47 = .ok (.invokevirtual 88, 3) := by decide +kernel
theorem dX18_solvent_50 : decode cX18_solvent 50 = .ok (.ireturn, 1) := by decide +kernel
theorem dX18_solvent_51 : decode cX18_solvent 51 = .ok (.aload_n 0, 1) := by decide +kernel
theorem dX18_solvent_52 : decode cX18_solvent 52 = .ok (.getfield 58, 3) := by decide +kernel
theorem dX18_solvent_55 : decode cX18_solvent 55 = .ok (.iconst 3, 1) := by decide +kernel
theorem dX18_solvent_56 : decode cX18_solvent 56 = .ok (.newarray .int, 2) := by decide +kernel
theorem dX18_solvent_58 : decode cX18_solvent 58 = .ok (.dup, 1) := by decide +kernel
theorem dX18_solvent_59 : decode cX18_solvent 59 = .ok (.iconst 0, 1) := by decide +kernel
theorem dX18_solvent_60 : decode cX18_solvent 60 = .ok (.iload_n 1, 1) := by decide +kernel
theorem dX18_solvent_61 : decode cX18_solvent 61 = .ok (.iastore, 1) := by decide +kernel
theorem dX18_solvent_62 : decode cX18_solvent 62 = .ok (.dup, 1) := by decide +kernel
theorem dX18_solvent_63 : decode cX18_solvent 63 = .ok (.iconst 1, 1) := by decide +kernel
theorem dX18_solvent_64 : decode cX18_solvent 64 = .ok (.iload_n 2, 1) := by decide +kernel
theorem dX18_solvent_65 : decode cX18_solvent 65 = .ok (.iastore, 1) := by decide +kernel
theorem dX18_solvent_66 : decode cX18_solvent 66 = .ok (.dup, 1) := by decide +kernel
theorem dX18_solvent_67 : decode cX18_solvent 67 = .ok (.iconst 2, 1) := by decide +kernel
theorem dX18_solvent_68 : decode cX18_solvent 68 = .ok (.iconst 0, 1) := by decide +kernel
theorem dX18_solvent_69 : decode cX18_solvent 69 = .ok (.iastore, 1) := by decide +kernel
theorem dX18_solvent_70 : decode cX18_solvent 70 = .ok (.invokeinterface 96 2, 5) := by decide +kernel
theorem dX18_solvent_75 : decode cX18_solvent 75 = .ok (.pop, 1) := by decide +kernel
theorem dX18_solvent_76 : decode cX18_solvent 76 = .ok (.aload_n 0, 1) := by decide +kernel
theorem dX18_solvent_77 : decode cX18_solvent 77 = .ok (.getfield 58, 3) := by decide +kernel
theorem dX18_solvent_80 : decode cX18_solvent 80 = .ok (.invokeinterface 74 1, 5) := by decide +kernel
theorem dX18_solvent_85 : decode cX18_solvent 85 = .ok (.iconst 1, 1) := by decide +kernel
theorem dX18_solvent_86 : decode cX18_solvent 86 = .ok (.isub, 1) := by decide +kernel
theorem dX18_solvent_87 : decode cX18_solvent 87 = .ok (.ireturn, 1) := by decide +kernel
set_option maxRecDepth 20000 in
theorem ggX18_isSolvent_Jx4a65c_size_8abf5 : GoodIn wsX18_isSolvent wsJx4a65c_size_8abf5 := goodIn_r _ [6, 7, 29, 30, 31] (by decide +kernel) (by decide +kernel)
set_option maxRecDepth 20000 in
theorem gX18_isSolvent_Jx4a65c_size_8abf5_f74Jx4a65c : GoodIn wsX18_isSolvent (va_wsF RX18 74 RJx4a65c ⟨"java/util/List", "size", "()I"⟩ yJx4a65c_size_8abf5 wsJx4a65c_size_8abf5) := goodIn_app (goodIn_of _ (by decide +kernel)) ggX18_isSolvent_Jx4a65c_size_8abf5
set_option maxRecDepth 20000 in
theorem ggX18_isSolvent_X18_in : GoodIn wsX18_isSolvent wsX18_in := goodIn_r _ [11] (by decide +kernel) (by decide +kernel)
set_option maxRecDepth 20000 in
theorem gX18_isSolvent_X18_in : GoodIn wsX18_isSolvent (va_wsS RX18 70 yX18_in wsX18_in) := goodIn_app (goodIn_of _ (by decide +kernel)) ggX18_isSolvent_X18_in
theorem dX18_isSolvent_0 : decode cX18_isSolvent 0 = .ok (.iload_n 1, 1) := by decide +kernel
theorem dX18_isSolvent_1 : decode cX18_isSolvent 1 = .ok (.iconst 0, 1) := by decide +kernel
theorem dX18_isSolvent_2 : decode cX18_isSolvent 2 = .ok (.aload_n 0, 1) := by decide +kernel
theorem dX18_isSolvent_3 : decode cX18_isSolvent 3 = .ok (.getfield 58, 3) := by decide +kernel
theorem dX18_isSolvent_6 : decode cX18_isSolvent 6 = .ok (.invokeinterface 74 1, 5) := by decide +kernel
theorem dX18_isSolvent_11 : decode cX18_isSolvent 11 = .ok (.iconst 1, 1) := by decide +kernel
theorem dX18_isSolvent_12 : decode cX18_isSolvent 12 = .ok (.isub, 1) := by decide +kernel
theorem dX18_isSolvent_13 : decode cX18_isSolvent 13 = .ok (.invokestatic 70, 3) := by decide +kernel
theorem dX18_isSolvent_16 : decode cX18_isSolvent 16 = .ok (.ireturn, 1) := by decide +kernel
set_option maxRecDepth 20000 in
theorem ggX18_tested_X18_isSolvent : GoodIn wsX18_tested wsX18_isSolvent := goodIn_r _ [8, 2, 9, 10, 11, 12, 13, 14, 15, 16, 7, 17, 39, 40, 41, 42, 43, 44, 45, 46, 47, 48, 49, 50, 51, 52, 53, 54, 55, 56, 57, 58] (by decide +kernel) (by decide +kernel)
set_option maxRecDepth 20000 in
theorem gX18_tested_X18_isSolvent : GoodIn wsX18_tested (wsV RX18 270 RX18 yX18_isSolvent wsX18_isSolvent) := goodIn_app (goodIn_of _ (by decide +kernel)) ggX18_tested_X18_isSolvent
set_option maxRecDepth 20000 in
theorem ggX18_tested_Jx4a65c_get_915e3 : GoodIn wsX18_tested wsJx4a65c_get_915e3 := goodIn_r _ [21, 14, 22, 23, 24, 25, 26, 27, 28, 29, 30, 31, 32, 12, 33, 34, 56, 57, 58] (by decide +kernel) (by decide +kernel)
set_option maxRecDepth 20000 in
theorem gX18_tested_Jx4a65c_get_915e3_f148Jx4a65c : GoodIn wsX18_tested (va_wsF RX18 148 RJx4a65c ⟨"java/util/List", "get", "(I)Ljava/lang/Object;"⟩ yJx4a65c_get_915e3 wsJx4a65c_get_915e3) := goodIn_app (goodIn_of _ (by decide +kernel)) ggX18_tested_Jx4a65c_get_915e3
set_option maxRecDepth 20000 in
theorem ggX18_tested_X18_fails : GoodIn wsX18_tested wsX18_fails := goodIn_r _ [38, 1, 39, 40, 41, 42, 43, 44, 45, 46, 47, 48, 49, 50, 51, 52, 53, 54, 55] (by decide +kernel) (by decide +kernel)
set_option maxRecDepth 20000 in
theorem gX18_tested_X18_fails : GoodIn wsX18_tested (wsV RX18 88 RX18 yX18_fails wsX18_fails) := goodIn_app (goodIn_of _ (by decide +kernel)) ggX18_tested_X18_fails
theorem dX18_tested_0 : decode cX18_tested 0 = .ok (.aload_n 0, 1) := by decide +kernel
theorem dX18_tested_1 : decode cX18_tested 1 = .ok (.iconst 0, 1) := by decide +kernel
theorem dX18_tested_2 : decode cX18_tested 2 = .ok (.putfield 67, 3) := by decide +kernel
theorem dX18_tested_5 : decode cX18_tested 5 = .ok (.aload_n 0, 1) := by decide +kernel
theorem dX18_tested_6 : decode cX18_tested 6 = .ok (.iload_n 1, 1) := by decide +kernel
theorem dX18_tested_7 : decode cX18_tested 7 = .ok (.invokevirtual 270, 3) := by decide +kernel
theorem dX18_tested_10 : decode cX18_tested 10 = .ok (.ifCond .eq 21, 3) := by decide +kernel
theorem dX18_tested_13 : decode cX18_tested 13 = .ok (.aload_n 0, 1) := by decide +kernel
theorem dX18_tested_14 : decode cX18_tested 14 = .ok (.getfield 58, 3) := by decide +kernel
theorem dX18_tested_17 : decode cX18_tested 17 = .ok (.iload_n 1, 1) := by decide +kernel
theorem dX18_tested_18 : decode cX18_tested 18 = .ok (.invokeinterface 148 2, 5) := by decide +kernel
theorem dX18_tested_23 : decode cX18_tested 23 = .ok (.checkcast 247, 3) := by decide +kernel
theorem dX18_tested_26 : decode cX18_tested 26 = .ok (.iconst 2, 1) := by decide +kernel
theorem dX18_tested_27 : decode cX18_tested 27 = .ok (.iaload, 1) := by decide +kernel
theorem dX18_tested_28 : decode cX18_tested 28 = .ok (.goto 8, 3) := by decide +kernel
theorem dX18_tested_31 : decode cX18_tested 31 = .ok (.aload_n 0, 1) := by decide +kernel
theorem dX18_tested_32 : decode cX18_tested 32 = .ok (.iconst 1, 1) := by decide +kernel
theorem dX18_tested_33 : decode cX18_tested 33 = .ok (.invokevirtual 88, 3) := by decide +kernel
theorem dX18_tested_36 : decode cX18_tested 36 = .ok (.ireturn, 1) := by decide +kernel
theorem dX18_sign_0 : decode cX18_sign 0 = .ok (.aload_n 0, 1) := by decide +kernel
theorem dX18_sign_1 : decode cX18_sign 1 = .ok (.iconst 0, 1) := by decide +kernel
theorem dX18_sign_2 : decode cX18_sign 2 = .ok (.putfield 67, 3) := by decide +kernel
theorem dX18_sign_5 : decode cX18_sign 5 = .ok (.aload_n 0, 1) := by decide +kernel
theorem dX18_sign_6 : decode cX18_sign 6 = .ok (.getfield 273, 3) := by decide +kernel
theorem dX18_sign_9 : decode cX18_sign 9 = .ok (.ifCond .ne 7, 3) := by decide +kernel
theorem dX18_sign_12 : decode cX18_sign 12 = .ok (.iconst 1, 1) := by decide +kernel
theorem dX18_sign_13 : decode cX18_sign 13 = .ok (.goto 4, 3) := by decide +kernel
theorem dX18_sign_16 : decode cX18_sign 16 = .ok (.iconst 0, 1) := by decide +kernel
theorem dX18_sign_17 : decode cX18_sign 17 = .ok (.istore_n 1, 1) := by decide +kernel
theorem dX18_sign_18 : decode cX18_sign 18 = .ok (.aload_n 0, 1) := by decide +kernel
theorem dX18_sign_19 : decode cX18_sign 19 = .ok (.iconst 1, 1) := by decide +kernel
theorem dX18_sign_20 : decode cX18_sign 20 = .ok (.putfield 273, 3) := by decide +kernel
theorem dX18_sign_23 : decode cX18_sign 23 = .ok (.iload_n 1, 1) := by decide +kernel
theorem dX18_sign_24 : decode cX18_sign 24 = .ok (.ireturn, 1) := by decide +kernel
set_option maxRecDepth 20000 in
theorem ggX18_swab_X18_isSolvent : GoodIn wsX18_swab wsX18_isSolvent := goodIn_r _ [19, 2, 20, 21, 22, 23, 24, 25, 26, 27, 18, 28, 406, 407, 408, 409, 410, 411, 412, 413, 414, 415, 416, 417, 418, 419, 420, 421, 422, 431, 432, 433] (by decide +kernel) (by decide +kernel)
set_option maxRecDepth 20000 in
theorem gX18_swab_X18_isSolvent : GoodIn wsX18_swab (wsV RX18 270 RX18 yX18_isSolvent wsX18_isSolvent) := goodIn_app (goodIn_of _ (by decide +kernel)) ggX18_swab_X18_isSolvent
set_option maxRecDepth 20000 in
theorem ggX18_swab_X18_fails : GoodIn wsX18_swab wsX18_fails := goodIn_r _ [32, 1, 406, 407, 408, 409, 410, 411, 412, 413, 414, 415, 416, 417, 418, 419, 420, 421, 422] (by decide +kernel) (by decide +kernel)
set_option maxRecDepth 20000 in
theorem gX18_swab_X18_fails : GoodIn wsX18_swab (wsV RX18 88 RX18 yX18_fails wsX18_fails) := goodIn_app (goodIn_of _ (by decide +kernel)) ggX18_swab_X18_fails
set_option maxRecDepth 20000 in
theorem ggX18_swab_X18_isPlace : GoodIn wsX18_swab wsX18_isPlace := goodIn_r _ [35, 26, 27, 18, 28] (by decide +kernel) (by decide +kernel)
set_option maxRecDepth 20000 in
theorem gX18_swab_X18_isPlace : GoodIn wsX18_swab (va_wsS RX18 124 yX18_isPlace wsX18_isPlace) := goodIn_app (goodIn_of _ (by decide +kernel)) ggX18_swab_X18_isPlace
set_option maxRecDepth 20000 in
theorem ggX18_swab_X18_in : GoodIn wsX18_swab wsX18_in := goodIn_r _ [28] (by decide +kernel) (by decide +kernel)
set_option maxRecDepth 20000 in
theorem gX18_swab_X18_in : GoodIn wsX18_swab (va_wsS RX18 70 yX18_in wsX18_in) := goodIn_app (goodIn_of _ (by decide +kernel)) ggX18_swab_X18_in
set_option maxRecDepth 20000 in
theorem ggX18_swab_Jx4a65c_get_915e3 : GoodIn wsX18_swab wsJx4a65c_get_915e3 := goodIn_r _ [39, 25, 40, 41, 42, 43, 44, 45, 46, 47, 48, 49, 50, 23, 51, 52, 431, 432, 433] (by decide +kernel) (by decide +kernel)
set_option maxRecDepth 20000 in
theorem gX18_swab_Jx4a65c_get_915e3_f148Jx4a65c : GoodIn wsX18_swab (va_wsF RX18 148 RJx4a65c ⟨"java/util/List", "get", "(I)Ljava/lang/Object;"⟩ yJx4a65c_get_915e3 wsJx4a65c_get_915e3) := goodIn_app (goodIn_of _ (by decide +kernel)) ggX18_swab_Jx4a65c_get_915e3
set_option maxRecDepth 20000 in
theorem ggX18_swab_X14_copy : GoodIn wsX18_swab wsX14_copy := goodIn_r _ [57, 58, 59, 56, 60, 61, 62, 63, 64, 65, 66, 67, 68, 69, 70, 71, 72, 73, 74, 75, 76, 23, 77, 78, 79, 80, 81, 82, 52, 83, 84, 85, 86, 87, 88, 89, 90, 91, 92, 93, 94, 95, 96, 97, 98, 99, 100, 101, 102, 103, 104, 105, 106, 25, 107, 108, 109, 110, 111, 112, 113, 114, 115, 116, 117, 118, 119, 120, 121, 122, 123, 124, 125, 126, 127, 128, 129, 13, 130, 131, 132, 133, 134, 135, 136, 12, 14, 137, 138, 139, 140, 141, 142, 143, 144, 145, 146, 147, 148, 149, 150, 151, 152, 153, 154, 155, 156, 157, 158, 159, 160, 161, 162, 163, 164, 165, 166, 167, 168, 169, 170, 171, 172, 173, 174, 175, 176, 177, 178, 179, 180, 181, 182, 183, 184, 185, 186, 187, 188, 189, 190, 191, 192, 193, 194, 195, 425, 426, 427, 428, 429, 430, 434, 435, 436, 437, 438, 439, 440, 441, 431, 432, 433, 442, 443, 444, 445] (by decide +kernel) (by decide +kernel)
set_option maxRecDepth 20000 in
theorem gX18_swab_X14_copy : GoodIn wsX18_swab (wsV RX18 111 RX14 yX14_copy wsX14_copy) := goodIn_app (goodIn_of _ (by decide +kernel)) ggX18_swab_X14_copy
set_option maxRecDepth 20000 in
theorem ggX18_swab_X12_init : GoodIn wsX18_swab wsX12_init := goodIn_r _ [198, 199, 72, 73, 200, 201, 423, 424] (by decide +kernel) (by decide +kernel)
set_option maxRecDepth 20000 in
theorem gX18_swab_X12_init : GoodIn wsX18_swab (wsX12_init) := ggX18_swab_X12_init
set_option maxRecDepth 20000 in
theorem ggX18_swab_X14_does : GoodIn wsX18_swab wsX14_does := goodIn_ca (goodIn_r _ [205, 60, 206, 61, 63, 207, 12, 13, 14, 208, 37, 38, 23, 39, 25, 40, 41, 42, 43, 44, 45, 46, 47, 48, 49, 50, 51, 52, 209, 210, 211, 56, 212, 65, 66, 67, 213, 21, 22, 24, 176, 177, 178, 179, 72, 73, 180, 181, 182, 183, 184, 185, 186, 187, 105, 106, 188, 189, 190, 191, 192, 193, 194, 195, 132, 133, 134, 135, 82, 136, 137, 138, 139, 140, 141, 142, 143, 144, 145, 146, 115, 116, 117, 118, 119, 120, 121, 122, 123, 124, 125, 126, 127, 128, 129, 130, 131, 108, 109, 110, 214, 215, 216, 217, 64, 218, 219, 220, 221, 222, 223, 224, 225, 226, 227, 228, 229, 230, 231, 232, 233, 234, 235, 236, 237, 238, 239, 240, 241, 242, 243, 244, 245, 246, 247, 248, 249, 250, 251, 252, 253, 254, 255, 256, 257, 258, 259, 260, 261, 262, 263, 264, 265, 266, 267, 268, 269, 270, 271, 272, 273, 274, 275, 276, 277, 278, 279, 280, 281, 282, 283, 284, 285, 286, 287, 288, 289, 290, 291, 292, 293, 294, 295, 296, 297, 298, 299, 300, 301, 302, 303, 304, 305, 306, 307, 308, 309, 310, 311, 78, 312, 313, 314, 315, 316, 317, 318, 98, 319, 320, 321, 322, 323, 324, 325, 326, 62, 327, 328, 329, 330, 331, 332, 333, 334, 335, 336, 337, 338, 339, 340, 341, 107, 342, 343, 344, 345, 346, 347, 348, 349, 350, 351, 352, 353, 354, 355, 356, 357, 358, 359, 360, 361, 362, 363, 364, 365, 366, 367, 368, 369, 370, 371, 372, 373, 374, 375, 376, 377, 27, 18, 28, 378, 379, 380, 381, 382, 148, 149, 150, 151, 152, 153, 154, 155, 156, 157, 158, 159, 160, 161, 383, 163, 164, 165, 166, 384, 168, 169, 170, 171, 172, 173, 174, 175, 385, 386, 387, 388, 389, 390, 391, 392, 393, 394, 395, 396, 397, 398, 399, 400, 401, 402, 403, 404, 423, 424, 425, 426, 427, 428, 429, 430, 406, 407, 408, 409, 410, 411, 412, 413, 414, 415, 416, 417, 418, 419, 420, 421, 422, 434, 435, 436, 431, 432, 433, 437, 438, 439, 440, 441, 446, 447, 448, 449, 450, 451, 452, 453, 454, 455, 456, 457, 458, 459, 460, 461, 442, 443, 444, 445] (by decide +kernel) (by decide +kernel)) (goodIn_sub (fun _ h => List.mem_cons_of_mem _ (List.mem_append_right _ h)) (by decide +kernel))
set_option maxRecDepth 20000 in
theorem gX18_swab_X14_does : GoodIn wsX18_swab (wsV RX18 115 RX14 yX14_does wsX14_does) := goodIn_app (goodIn_of _ (by decide +kernel)) ggX18_swab_X14_does
set_option maxRecDepth 20000 in
theorem ggX18_swab_Jx4a65c_size_8abf5 : GoodIn wsX18_swab wsJx4a65c_size_8abf5 := goodIn_r _ [24, 25, 431, 432, 433] (by decide +kernel) (by decide +kernel)
set_option maxRecDepth 20000 in
theorem gX18_swab_Jx4a65c_size_8abf5_f74Jx4a65c : GoodIn wsX18_swab (va_wsF RX18 74 RJx4a65c ⟨"java/util/List", "size", "()I"⟩ yJx4a65c_size_8abf5 wsJx4a65c_size_8abf5) := goodIn_app (goodIn_of _ (by decide +kernel)) ggX18_swab_Jx4a65c_size_8abf5
set_option maxRecDepth 20000 in
theorem ggX18_swab_Jx4a65c_add_9ea2d : GoodIn wsX18_swab wsJx4a65c_add_9ea2d := goodIn_r _ [187, 105, 106, 52, 25, 188, 189, 190, 23, 191, 192, 193, 194, 195, 132, 133, 134, 135, 82, 136, 12, 13, 14, 137, 138, 139, 140, 141, 142, 143, 144, 145, 146, 115, 116, 117, 118, 119, 120, 121, 122, 123, 124, 125, 126, 127, 128, 129, 130, 131, 108, 109, 110, 431, 432, 433] (by decide +kernel) (by decide +kernel)
set_option maxRecDepth 20000 in
theorem gX18_swab_Jx4a65c_add_9ea2d_f96Jx4a65c : GoodIn wsX18_swab (va_wsF RX18 96 RJx4a65c ⟨"java/util/List", "add", "(Ljava/lang/Object;)Z"⟩ yJx4a65c_add_9ea2d wsJx4a65c_add_9ea2d) := goodIn_app (goodIn_of _ (by decide +kernel)) ggX18_swab_Jx4a65c_add_9ea2d
theorem dX18_swab_0 : decode cX18_swab 0 = .ok (.aload_n 0, 1) := by decide +kernel
theorem dX18_swab_1 : decode cX18_swab 1 = .ok (.iconst 0, 1) := by decide +kernel
theorem dX18_swab_2 : decode cX18_swab 2 = .ok (.putfield 67, 3) := by decide +kernel
theorem dX18_swab_5 : decode cX18_swab 5 = .ok (.aload_n 0, 1) := by decide +kernel
theorem dX18_swab_6 : decode cX18_swab 6 = .ok (.iload_n 1, 1) := by decide +kernel
theorem dX18_swab_7 : decode cX18_swab 7 = .ok (.invokevirtual 270, 3) := by decide +kernel
theorem dX18_swab_10 : decode cX18_swab 10 = .ok (.ifCond .ne 9, 3) := by decide +kernel
theorem dX18_swab_13 : decode cX18_swab 13 = .ok (.aload_n 0, 1) := by decide +kernel
theorem dX18_swab_14 : decode cX18_swab 14 = .ok (.iconst 1, 1) := by decide +kernel
theorem dX18_swab_15 : decode cX18_swab 15 = .ok (.invokevirtual 88, 3) := by decide +kernel
theorem dX18_swab_18 : decode cX18_swab 18 = .ok (.ireturn, 1) := by decide +kernel
theorem dX18_swab_19 : decode cX18_swab 19 = .ok (.iload_n 2, 1) := by decide +kernel
theorem dX18_swab_20 : decode cX18_swab 20 = .ok (.iload_n 3, 1) := by decide +kernel
theorem dX18_swab_21 : decode cX18_swab 21 = .ok (.invokestatic 124, 3) := by decide +kernel
theorem dX18_swab_24 : decode cX18_swab 24 = .ok (.ifCond .eq 14, 3) := by decide +kernel
theorem dX18_swab_27 : decode cX18_swab 27 = .ok (.iload 4, 2) := by decide +kernel
theorem dX18_swab_29 : decode cX18_swab 29 = .ok (.iconst 1, 1) := by decide +kernel
theorem dX18_swab_30 : decode cX18_swab 30 = .ok (.bipush 60, 2) := by decide +kernel
theorem dX18_swab_32 : decode cX18_swab 32 = .ok (.invokestatic 70, 3) := by decide +kernel
theorem dX18_swab_35 : decode cX18_swab 35 = .ok (.ifCond .ne 9, 3) := by decide +kernel
theorem dX18_swab_38 : decode cX18_swab 38 = .ok (.aload_n 0, 1) := by decide +kernel
theorem dX18_swab_39 : decode cX18_swab 39 = .ok (.iconst 2, 1) := by decide +kernel
theorem dX18_swab_40 : decode cX18_swab 40 = .ok (.invokevirtual 88, 3) := by decide +kernel
theorem dX18_swab_43 : decode cX18_swab 43 = .ok (.ireturn, 1) := by decide +kernel
theorem dX18_swab_44 : decode cX18_swab 44 = .ok (.aload_n 0, 1) := by decide +kernel
theorem dX18_swab_45 : decode cX18_swab 45 = .ok (.getfield 58, 3) := by decide +kernel
theorem dX18_swab_48 : decode cX18_swab 48 = .ok (.iload_n 1, 1) := by decide +kernel
theorem dX18_swab_49 : decode cX18_swab 49 = .ok (.invokeinterface 148 2, 5) := by decide +kernel
theorem dX18_swab_54 : decode cX18_swab 54 = .ok (.checkcast 247, 3) := by decide +kernel
theorem dX18_swab_57 : decode cX18_swab 57 = .ok (.astore 5, 2) := by decide +kernel
theorem dX18_swab_59 : decode cX18_swab 59 = .ok (.iload_n 2, 1) := by decide +kernel
theorem dX18_swab_60 : decode cX18_swab 60 = .ok (.ifCond .eq 18, 3) := by decide +kernel
theorem dX18_swab_63 : decode cX18_swab 63 = .ok (.iload_n 2, 1) := by decide +kernel
theorem dX18_swab_64 : decode cX18_swab 64 = .ok (.bipush 7, 2) := by decide +kernel
theorem dX18_swab_66 : decode cX18_swab 66 = .ok (.if_icmp .eq 12, 3) := by decide +kernel
theorem dX18_swab_69 : decode cX18_swab 69 = .ok (.iload_n 3, 1) := by decide +kernel
theorem dX18_swab_70 : decode cX18_swab 70 = .ok (.ifCond .eq 8, 3) := by decide +kernel
theorem dX18_swab_73 : decode cX18_swab 73 = .ok (.iload_n 3, 1) := by decide +kernel
theorem dX18_swab_74 : decode cX18_swab 74 = .ok (.iconst 5, 1) := by decide +kernel
theorem dX18_swab_75 : decode cX18_swab 75 = .ok (.if_icmp .ne 7, 3) := by decide +kernel
theorem dX18_swab_78 : decode cX18_swab 78 = .ok (.iconst 1, 1) := by decide +kernel
theorem dX18_swab_79 : decode cX18_swab 79 = .ok (.goto 4, 3) := by decide +kernel
theorem dX18_swab_82 : decode cX18_swab 82 = .ok (.iconst 0, 1) := by decide +kernel
theorem dX18_swab_83 : decode cX18_swab 83 = .ok (.istore 6, 2) := by decide +kernel
theorem dX18_swab_85 : decode cX18_swab 85 = .ok (.aload_n 0, 1) := by decide +kernel
theorem dX18_swab_86 : decode cX18_swab 86 = .ok (.getfield 25, 3) := by decide +kernel
theorem dX18_swab_89 : decode cX18_swab 89 = .ok (.invokevirtual 111, 3) := by decide +kernel
theorem dX18_swab_92 : decode cX18_swab 92 = .ok (.astore 7, 2) := by decide +kernel
theorem dX18_swab_94 : decode cX18_swab 94 = .ok (.new 128, 3) := by decide +kernel
theorem dX18_swab_97 : decode cX18_swab 97 = .ok (.dup, 1) := by decide +kernel
theorem dX18_swab_98 : decode cX18_swab 98 = .ok (.bipush 119, 2) := by decide +kernel
theorem dX18_swab_100 : decode cX18_swab 100 = .ok (.iconst 4, 1) := by decide +kernel
theorem dX18_swab_101 : decode cX18_swab 101 = .ok (.newarray .int, 2) := by decide +kernel
theorem dX18_swab_103 : decode cX18_swab 103 = .ok (.dup, 1) := by decide +kernel
theorem dX18_swab_104 : decode cX18_swab 104 = .ok (.iconst 0, 1) := by decide +kernel
theorem dX18_swab_105 : decode cX18_swab 105 = .ok (.bipush 8, 2) := by decide +kernel
theorem dX18_swab_107 : decode cX18_swab 107 = .ok (.iload_n 3, 1) := by decide +kernel
theorem dX18_swab_108 : decode cX18_swab 108 = .ok (.imul, 1) := by decide +kernel
theorem dX18_swab_109 : decode cX18_swab 109 = .ok (.iload_n 2, 1) := by decide +kernel
theorem dX18_swab_110 : decode cX18_swab 110 = .ok (.iadd, 1) := by decide +kernel
theorem dX18_swab_111 : decode cX18_swab 111 = .ok (.iastore, 1) := by decide +kernel
theorem dX18_swab_112 : decode cX18_swab 112 = .ok (.dup, 1) := by decide +kernel
theorem dX18_swab_113 : decode cX18_swab 113 = .ok (.iconst 1, 1) := by decide +kernel
theorem dX18_swab_114 : decode cX18_swab 114 = .ok (.aload 5, 2) := by decide +kernel
theorem dX18_swab_116 : decode cX18_swab 116 = .ok (.iconst 0, 1) := by decide +kernel
theorem dX18_swab_117 : decode cX18_swab 117 = .ok (.iaload, 1) := by decide +kernel
theorem dX18_swab_118 : decode cX18_swab 118 = .ok (.iastore, 1) := by decide +kernel
theorem dX18_swab_119 : decode cX18_swab 119 = .ok (.dup, 1) := by decide +kernel
theorem dX18_swab_120 : decode cX18_swab 120 = .ok (.iconst 2, 1) := by decide +kernel
theorem dX18_swab_121 : decode cX18_swab 121 = .ok (.aload 5, 2) := by decide +kernel
theorem dX18_swab_123 : decode cX18_swab 123 = .ok (.iconst 1, 1) := by decide +kernel
theorem dX18_swab_124 : decode cX18_swab 124 = .ok (.iaload, 1) := by decide +kernel
theorem dX18_swab_125 : decode cX18_swab 125 = .ok (.iastore, 1) := by decide +kernel
theorem dX18_swab_126 : decode cX18_swab 126 = .ok (.dup, 1) := by decide +kernel
theorem dX18_swab_127 : decode cX18_swab 127 = .ok (.iconst 3, 1) := by decide +kernel
theorem dX18_swab_128 : decode cX18_swab 128 = .ok (.iload 4, 2) := by decide +kernel
theorem dX18_swab_130 : decode cX18_swab 130 = .ok (.iastore, 1) := by decide +kernel
theorem dX18_swab_131 : decode cX18_swab 131 = .ok (.invokespecial 130, 3) := by decide +kernel
theorem dX18_swab_134 : decode cX18_swab 134 = .ok (.astore 8, 2) := by decide +kernel
theorem dX18_swab_136 : decode cX18_swab 136 = .ok (.aload 7, 2) := by decide +kernel
theorem dX18_swab_138 : decode cX18_swab 138 = .ok (.aload 8, 2) := by decide +kernel
theorem dX18_swab_140 : decode cX18_swab 140 = .ok (.invokevirtual 115, 3) := by decide +kernel
theorem dX18_swab_143 : decode cX18_swab 143 = .ok (.istore 9, 2) := by decide +kernel
theorem dX18_swab_145 : decode cX18_swab 145 = .ok (.iload 6, 2) := by decide +kernel
theorem dX18_swab_147 : decode cX18_swab 147 = .ok (.ifCond .ne 33, 3) := by decide +kernel
theorem dX18_swab_150 : decode cX18_swab 150 = .ok (.aload_n 0, 1) := by decide +kernel
theorem dX18_swab_151 : decode cX18_swab 151 = .ok (.getfield 273, 3) := by decide +kernel
theorem dX18_swab_154 : decode cX18_swab 154 = .ok (.ifCond .ne 26, 3) := by decide +kernel
theorem dX18_swab_157 : decode cX18_swab 157 = .ok (.iload 9, 2) := by decide +kernel
theorem dX18_swab_159 : decode cX18_swab 159 = .ok (.aload 5, 2) := by decide +kernel
theorem dX18_swab_161 : decode cX18_swab 161 = .ok (.iconst 2, 1) := by decide +kernel
theorem dX18_swab_162 : decode cX18_swab 162 = .ok (.iaload, 1) := by decide +kernel
theorem dX18_swab_163 : decode cX18_swab 163 = .ok (.if_icmp .gt 11, 3) := by decide +kernel
theorem dX18_swab_166 : decode cX18_swab 166 = .ok (.aload 7, 2) := by decide +kernel
theorem dX18_swab_168 : decode cX18_swab 168 = .ok (.getfield 277, 3) := by decide +kernel
theorem dX18_swab_171 : decode cX18_swab 171 = .ok (.ifCond .eq 9, 3) := by decide +kernel
theorem dX18_swab_174 : decode cX18_swab 174 = .ok (.aload_n 0, 1) := by decide +kernel
theorem dX18_swab_175 : decode cX18_swab 175 = .ok (.iconst 3, 1) := by decide +kernel
theorem dX18_swab_176 : decode cX18_swab 176 = .ok (.invokevirtual 88, 3) := by decide +kernel
theorem dX18_swab_179 : decode cX18_swab 179 = .ok (.ireturn, 1) := by decide +kernel
theorem dX18_swab_180 : decode cX18_swab 180 = .ok (.aload_n 0, 1) := by decide +kernel
theorem dX18_swab_181 : decode cX18_swab 181 = .ok (.getfield 29, 3) := by decide +kernel
theorem dX18_swab_184 : decode cX18_swab 184 = .ok (.invokeinterface 74 1, 5) := by decide +kernel
theorem dX18_swab_189 : decode cX18_swab 189 = .ok (.bipush 40, 2) := by decide +kernel
theorem dX18_swab_191 : decode cX18_swab 191 = .ok (.if_icmp .ne 9, 3) := by decide +kernel
theorem dX18_swab_194 : decode cX18_swab 194 = .ok (.aload_n 0, 1) := by decide +kernel
theorem dX18_swab_195 : decode cX18_swab 195 = .ok (.iconst 4, 1) := by decide +kernel
theorem dX18_swab_196 : decode cX18_swab 196 = .ok (.invokevirtual 88, 3) := by decide +kernel
theorem dX18_swab_199 : decode cX18_swab 199 = .ok (.ireturn, 1) := by decide +kernel
theorem dX18_swab_200 : decode cX18_swab 200 = .ok (.aload 5, 2) := by decide +kernel
theorem dX18_swab_202 : decode cX18_swab 202 = .ok (.iconst 2, 1) := by decide +kernel
theorem dX18_swab_203 : decode cX18_swab 203 = .ok (.iload 6, 2) := by decide +kernel
theorem dX18_swab_205 : decode cX18_swab 205 = .ok (.ifCond .eq 15, 3) := by decide +kernel
theorem dX18_swab_208 : decode cX18_swab 208 = .ok (.aload 5, 2) := by decide +kernel
theorem dX18_swab_210 : decode cX18_swab 210 = .ok (.iconst 2, 1) := by decide +kernel
theorem dX18_swab_211 : decode cX18_swab 211 = .ok (.iaload, 1) := by decide +kernel
theorem dX18_swab_212 : decode cX18_swab 212 = .ok (.iload 9, 2) := by decide +kernel
theorem dX18_swab_214 : decode cX18_swab 214 = .ok (.invokestatic 280, 3) := by decide +kernel
theorem dX18_swab_217 : decode cX18_swab 217 = .ok (.goto 7, 3) := by decide +kernel
theorem dX18_swab_220 : decode cX18_swab 220 = .ok (.aload 5, 2) := by decide +kernel
theorem dX18_swab_222 : decode cX18_swab 222 = .ok (.iconst 2, 1) := by decide +kernel
theorem dX18_swab_223 : decode cX18_swab 223 = .ok (.iaload, 1) := by decide +kernel
theorem dX18_swab_224 : decode cX18_swab 224 = .ok (.iastore, 1) := by decide +kernel
theorem dX18_swab_225 : decode cX18_swab 225 = .ok (.aload_n 0, 1) := by decide +kernel
theorem dX18_swab_226 : decode cX18_swab 226 = .ok (.iload 6, 2) := by decide +kernel
theorem dX18_swab_228 : decode cX18_swab 228 = .ok (.ifCond .eq 14, 3) := by decide +kernel
theorem dX18_swab_231 : decode cX18_swab 231 = .ok (.aload_n 0, 1) := by decide +kernel
theorem dX18_swab_232 : decode cX18_swab 232 = .ok (.getfield 273, 3) := by decide +kernel
theorem dX18_swab_235 : decode cX18_swab 235 = .ok (.ifCond .eq 7, 3) := by decide +kernel
theorem dX18_swab_238 : decode cX18_swab 238 = .ok (.iconst 1, 1) := by decide +kernel
theorem dX18_swab_239 : decode cX18_swab 239 = .ok (.goto 4, 3) := by decide +kernel
theorem dX18_swab_242 : decode cX18_swab 242 = .ok (.iconst 0, 1) := by decide +kernel
theorem dX18_swab_243 : decode cX18_swab 243 = .ok (.putfield 273, 3) := by decide +kernel
theorem dX18_swab_246 : decode cX18_swab 246 = .ok (.aload_n 0, 1) := by decide +kernel
theorem dX18_swab_247 : decode cX18_swab 247 = .ok (.aload 7, 2) := by decide +kernel
theorem dX18_swab_249 : decode cX18_swab 249 = .ok (.putfield 25, 3) := by decide +kernel
theorem dX18_swab_252 : decode cX18_swab 252 = .ok (.aload_n 0, 1) := by decide +kernel
theorem dX18_swab_253 : decode cX18_swab 253 = .ok (.getfield 29, 3) := by decide +kernel
theorem dX18_swab_256 : decode cX18_swab 256 = .ok (.aload 8, 2) := by decide +kernel
theorem dX18_swab_258 : decode cX18_swab 258 = .ok (.invokeinterface 96 2, 5) := by decide +kernel
theorem dX18_swab_263 : decode cX18_swab 263 = .ok (.pop, 1) := by decide +kernel
theorem dX18_swab_264 : decode cX18_swab 264 = .ok (.iload 9, 2) := by decide +kernel
theorem dX18_swab_266 : decode cX18_swab 266 = .ok (.ireturn, 1) := by decide +kernel
set_option maxRecDepth 20000 in
theorem ggX18_fill_X18_isStuff : GoodIn wsX18_fill wsX18_isStuff := goodIn_r _ [12, 2, 13, 14, 15, 16, 17, 18, 19, 20, 11, 21, 409, 410, 411, 412, 413, 414, 415, 416, 417, 418, 419, 420, 421, 422, 423, 424, 425, 438, 439, 440] (by decide +kernel) (by decide +kernel)
set_option maxRecDepth 20000 in
theorem gX18_fill_X18_isStuff : GoodIn wsX18_fill (wsV RX18 100 RX18 yX18_isStuff wsX18_isStuff) := goodIn_app (goodIn_of _ (by decide +kernel)) ggX18_fill_X18_isStuff
set_option maxRecDepth 20000 in
theorem ggX18_fill_X18_fails : GoodIn wsX18_fill wsX18_fails := goodIn_r _ [25, 1, 409, 410, 411, 412, 413, 414, 415, 416, 417, 418, 419, 420, 421, 422, 423, 424, 425] (by decide +kernel) (by decide +kernel)
set_option maxRecDepth 20000 in
theorem gX18_fill_X18_fails : GoodIn wsX18_fill (wsV RX18 88 RX18 yX18_fails wsX18_fails) := goodIn_app (goodIn_of _ (by decide +kernel)) ggX18_fill_X18_fails
set_option maxRecDepth 20000 in
theorem ggX18_fill_Jx4a65c_get_915e3 : GoodIn wsX18_fill wsJx4a65c_get_915e3 := goodIn_r _ [29, 18, 30, 31, 32, 33, 34, 35, 36, 37, 38, 39, 40, 16, 41, 42, 438, 439, 440] (by decide +kernel) (by decide +kernel)
set_option maxRecDepth 20000 in
theorem gX18_fill_Jx4a65c_get_915e3_f148Jx4a65c : GoodIn wsX18_fill (va_wsF RX18 148 RJx4a65c ⟨"java/util/List", "get", "(I)Ljava/lang/Object;"⟩ yJx4a65c_get_915e3 wsJx4a65c_get_915e3) := goodIn_app (goodIn_of _ (by decide +kernel)) ggX18_fill_Jx4a65c_get_915e3
set_option maxRecDepth 20000 in
theorem ggX18_fill_X18_isPlace : GoodIn wsX18_fill wsX18_isPlace := goodIn_r _ [45, 19, 20, 11, 21] (by decide +kernel) (by decide +kernel)
set_option maxRecDepth 20000 in
theorem gX18_fill_X18_isPlace : GoodIn wsX18_fill (va_wsS RX18 124 yX18_isPlace wsX18_isPlace) := goodIn_app (goodIn_of _ (by decide +kernel)) ggX18_fill_X18_isPlace
set_option maxRecDepth 20000 in
theorem ggX18_fill_X12_init : GoodIn wsX18_fill wsX12_init := goodIn_r _ [48, 49, 50, 51, 52, 53, 436, 437] (by decide +kernel) (by decide +kernel)
set_option maxRecDepth 20000 in
theorem gX18_fill_X12_init : GoodIn wsX18_fill (wsX12_init) := ggX18_fill_X12_init
set_option maxRecDepth 20000 in
theorem ggX18_fill_X18_keeps : GoodIn wsX18_fill wsX18_keeps := goodIn_ca (goodIn_r _ [57, 58, 59, 60, 61, 62, 63, 64, 65, 66, 67, 68, 69, 70, 71, 72, 73, 74, 75, 76, 77, 78, 79, 80, 81, 82, 50, 51, 83, 84, 85, 16, 86, 87, 88, 89, 90, 91, 42, 92, 93, 94, 95, 96, 97, 98, 99, 100, 101, 102, 103, 104, 105, 106, 107, 108, 109, 110, 111, 112, 113, 114, 115, 18, 116, 117, 118, 119, 120, 121, 122, 123, 124, 125, 126, 127, 128, 129, 130, 131, 132, 133, 134, 135, 136, 137, 138, 139, 140, 141, 142, 143, 144, 145, 146, 147, 148, 149, 150, 151, 152, 153, 154, 155, 156, 157, 158, 159, 160, 161, 162, 163, 164, 165, 166, 167, 168, 169, 170, 171, 172, 173, 174, 175, 176, 177, 178, 179, 180, 181, 182, 183, 184, 185, 186, 187, 188, 189, 190, 191, 192, 193, 194, 195, 196, 197, 198, 199, 200, 201, 202, 203, 204, 205, 206, 207, 208, 209, 210, 211, 212, 213, 27, 28, 29, 30, 31, 32, 33, 34, 35, 36, 37, 38, 39, 40, 41, 214, 215, 216, 217, 218, 14, 15, 17, 219, 220, 221, 222, 223, 224, 225, 226, 227, 228, 229, 230, 231, 232, 233, 234, 235, 236, 237, 238, 239, 240, 241, 242, 243, 244, 245, 246, 247, 248, 249, 250, 251, 252, 253, 254, 255, 256, 257, 258, 259, 260, 261, 262, 263, 264, 265, 266, 267, 268, 269, 270, 271, 272, 273, 274, 275, 276, 277, 278, 279, 280, 281, 282, 283, 284, 285, 286, 287, 288, 289, 290, 291, 292, 293, 294, 295, 296, 297, 298, 299, 300, 301, 302, 303, 304, 305, 306, 307, 308, 309, 310, 311, 312, 313, 314, 315, 316, 317, 318, 319, 320, 321, 322, 323, 324, 325, 326, 327, 328, 329, 330, 331, 332, 333, 334, 335, 336, 337, 338, 339, 340, 341, 342, 343, 344, 345, 346, 347, 348, 349, 350, 351, 352, 353, 354, 355, 356, 357, 358, 359, 360, 361, 362, 363, 364, 365, 366, 367, 368, 369, 370, 371, 372, 373, 374, 375, 376, 377, 378, 379, 380, 20, 11, 21, 381, 382, 383, 384, 385, 386, 387, 388, 389, 390, 391, 392, 393, 394, 395, 396, 397, 398, 399, 400, 401, 402, 403, 404, 405, 406, 407, 22, 23, 24, 25, 1, 13, 408, 409, 410, 411, 412, 413, 414, 415, 416, 417, 418, 419, 420, 421, 422, 423, 424, 425, 441, 442, 443, 444, 445, 446, 447, 448, 449, 450, 451, 452, 453, 454, 438, 439, 440, 455, 456, 457, 458, 436, 437, 426, 427, 428, 429, 430, 431, 432, 433, 434, 435, 459, 460, 461, 462, 463, 464] (by decide +kernel) (by decide +kernel)) (goodIn_sub (fun _ h => List.mem_cons_of_mem _ (List.mem_append_right _ h)) (by decide +kernel))
set_option maxRecDepth 20000 in
theorem gX18_fill_X18_keeps : GoodIn wsX18_fill (wsV RX18 133 RX18 yX18_keeps wsX18_keeps) := goodIn_app (goodIn_of _ (by decide +kernel)) ggX18_fill_X18_keeps
theorem dX18_fill_0 : decode cX18_fill 0 = .ok (.aload_n 0, 1) := by decide +kernel
theorem dX18_fill_1 : decode cX18_fill 1 = .ok (.iconst 0, 1) := by decide +kernel
theorem dX18_fill_2 : decode cX18_fill 2 = .ok (.putfield 67, 3) := by decide +kernel
theorem dX18_fill_5 : decode cX18_fill 5 = .ok (.aload_n 0, 1) := by decide +kernel
theorem dX18_fill_6 : decode cX18_fill 6 = .ok (.iload_n 1, 1) := by decide +kernel
theorem dX18_fill_7 : decode cX18_fill 7 = .ok (.invokevirtual 100, 3) := by decide +kernel
theorem dX18_fill_10 : decode cX18_fill 10 = .ok (.ifCond .ne 9, 3) := by decide +kernel
theorem dX18_fill_13 : decode cX18_fill 13 = .ok (.aload_n 0, 1) := by decide +kernel
theorem dX18_fill_14 : decode cX18_fill 14 = .ok (.iconst 1, 1) := by decide +kernel
theorem dX18_fill_15 : decode cX18_fill 15 = .ok (.invokevirtual 88, 3) := by decide +kernel
theorem dX18_fill_18 : decode cX18_fill 18 = .ok (.ireturn, 1) := by decide +kernel
theorem dX18_fill_19 : decode cX18_fill 19 = .ok (.aload_n 0, 1) := by decide +kernel
theorem dX18_fill_20 : decode cX18_fill 20 = .ok (.getfield 10, 3) := by decide +kernel
theorem dX18_fill_23 : decode cX18_fill 23 = .ok (.iload_n 1, 1) := by decide +kernel
theorem dX18_fill_24 : decode cX18_fill 24 = .ok (.invokeinterface 148 2, 5) := by decide +kernel
theorem dX18_fill_29 : decode cX18_fill 29 = .ok (.checkcast 91, 3) := by decide +kernel
theorem dX18_fill_32 : decode cX18_fill 32 = .ok (.getfield 200, 3) := by decide +kernel
theorem dX18_fill_35 : decode cX18_fill 35 = .ok (.bipush 102, 2) := by decide +kernel
theorem dX18_fill_37 : decode cX18_fill 37 = .ok (.if_icmp .ne 44, 3) := by decide +kernel
theorem dX18_fill_40 : decode cX18_fill 40 = .ok (.iload_n 2, 1) := by decide +kernel
theorem dX18_fill_41 : decode cX18_fill 41 = .ok (.iload_n 3, 1) := by decide +kernel
theorem dX18_fill_42 : decode cX18_fill 42 = .ok (.invokestatic 124, 3) := by decide +kernel
theorem dX18_fill_45 : decode cX18_fill 45 = .ok (.ifCond .eq 36, 3) := by decide +kernel
theorem dX18_fill_48 : decode cX18_fill 48 = .ok (.aload_n 0, 1) := by decide +kernel
theorem dX18_fill_49 : decode cX18_fill 49 = .ok (.new 128, 3) := by decide +kernel
theorem dX18_fill_52 : decode cX18_fill 52 = .ok (.dup, 1) := by decide +kernel
theorem dX18_fill_53 : decode cX18_fill 53 = .ok (.bipush 102, 2) := by decide +kernel
theorem dX18_fill_55 : decode cX18_fill 55 = .ok (.iconst 2, 1) := by decide +kernel
theorem dX18_fill_56 : decode cX18_fill 56 = .ok (.newarray .int, 2) := by decide +kernel
theorem dX18_fill_58 : decode cX18_fill 58 = .ok (.dup, 1) := by decide +kernel
theorem dX18_fill_59 : decode cX18_fill 59 = .ok (.iconst 0, 1) := by decide +kernel
theorem dX18_fill_60 : decode cX18_fill 60 = .ok (.bipush 8, 2) := by decide +kernel
theorem dX18_fill_62 : decode cX18_fill 62 = .ok (.iload_n 3, 1) := by decide +kernel
theorem dX18_fill_63 : decode cX18_fill 63 = .ok (.imul, 1) := by decide +kernel
theorem dX18_fill_64 : decode cX18_fill 64 = .ok (.iload_n 2, 1) := by decide +kernel
theorem dX18_fill_65 : decode cX18_fill 65 = .ok (.iadd, 1) := by decide +kernel
theorem dX18_fill_66 : decode cX18_fill 66 = .ok (.iastore, 1) := by decide +kernel
theorem dX18_fill_67 : decode cX18_fill 67 = .ok (.dup, 1) := by decide +kernel
theorem dX18_fill_68 : decode cX18_fill 68 = .ok (.iconst 1, 1) := by decide +kernel
theorem dX18_fill_69 : decode cX18_fill 69 = .ok (.iload_n 1, 1) := by decide +kernel
theorem dX18_fill_70 : decode cX18_fill 70 = .ok (.iastore, 1) := by decide +kernel
theorem dX18_fill_71 : decode cX18_fill 71 = .ok (.invokespecial 130, 3) := by decide +kernel
theorem dX18_fill_74 : decode cX18_fill 74 = .ok (.iconst 3, 1) := by decide +kernel
theorem dX18_fill_75 : decode cX18_fill 75 = .ok (.invokevirtual 133, 3) := by decide +kernel
theorem dX18_fill_78 : decode cX18_fill 78 = .ok (.goto 8, 3) := by decide +kernel
theorem dX18_fill_81 : decode cX18_fill 81 = .ok (.aload_n 0, 1) := by decide +kernel
theorem dX18_fill_82 : decode cX18_fill 82 = .ok (.iconst 2, 1) := by decide +kernel
theorem dX18_fill_83 : decode cX18_fill 83 = .ok (.invokevirtual 88, 3) := by decide +kernel
theorem dX18_fill_86 : decode cX18_fill 86 = .ok (.ireturn, 1) := by decide +kernel
set_option maxRecDepth 20000 in
theorem ggX18_retouch_X18_isStuff : GoodIn wsX18_retouch wsX18_isStuff := goodIn_r _ [12, 2, 13, 14, 15, 16, 17, 18, 19, 20, 11, 21, 409, 410, 411, 412, 413, 414, 415, 416, 417, 418, 419, 420, 421, 422, 423, 424, 425, 438, 439, 440] (by decide +kernel) (by decide +kernel)
set_option maxRecDepth 20000 in
theorem gX18_retouch_X18_isStuff : GoodIn wsX18_retouch (wsV RX18 100 RX18 yX18_isStuff wsX18_isStuff) := goodIn_app (goodIn_of _ (by decide +kernel)) ggX18_retouch_X18_isStuff
set_option maxRecDepth 20000 in
theorem ggX18_retouch_X18_fails : GoodIn wsX18_retouch wsX18_fails := goodIn_r _ [25, 1, 409, 410, 411, 412, 413, 414, 415, 416, 417, 418, 419, 420, 421, 422, 423, 424, 425] (by decide +kernel) (by decide +kernel)
set_option maxRecDepth 20000 in
theorem gX18_retouch_X18_fails : GoodIn wsX18_retouch (wsV RX18 88 RX18 yX18_fails wsX18_fails) := goodIn_app (goodIn_of _ (by decide +kernel)) ggX18_retouch_X18_fails
set_option maxRecDepth 20000 in
theorem ggX18_retouch_Jx4a65c_get_915e3 : GoodIn wsX18_retouch wsJx4a65c_get_915e3 := goodIn_r _ [29, 18, 30, 31, 32, 33, 34, 35, 36, 37, 38, 39, 40, 16, 41, 42, 438, 439, 440] (by decide +kernel) (by decide +kernel)
set_option maxRecDepth 20000 in
theorem gX18_retouch_Jx4a65c_get_915e3_f148Jx4a65c : GoodIn wsX18_retouch (va_wsF RX18 148 RJx4a65c ⟨"java/util/List", "get", "(I)Ljava/lang/Object;"⟩ yJx4a65c_get_915e3 wsJx4a65c_get_915e3) := goodIn_app (goodIn_of _ (by decide +kernel)) ggX18_retouch_Jx4a65c_get_915e3
set_option maxRecDepth 20000 in
theorem ggX18_retouch_X18_isPlace : GoodIn wsX18_retouch wsX18_isPlace := goodIn_r _ [45, 19, 20, 11, 21] (by decide +kernel) (by decide +kernel)
set_option maxRecDepth 20000 in
theorem gX18_retouch_X18_isPlace : GoodIn wsX18_retouch (va_wsS RX18 124 yX18_isPlace wsX18_isPlace) := goodIn_app (goodIn_of _ (by decide +kernel)) ggX18_retouch_X18_isPlace
set_option maxRecDepth 20000 in
theorem ggX18_retouch_X18_in : GoodIn wsX18_retouch wsX18_in := goodIn_r _ [21] (by decide +kernel) (by decide +kernel)
set_option maxRecDepth 20000 in
theorem gX18_retouch_X18_in : GoodIn wsX18_retouch (va_wsS RX18 70 yX18_in wsX18_in) := goodIn_app (goodIn_of _ (by decide +kernel)) ggX18_retouch_X18_in
set_option maxRecDepth 20000 in
theorem ggX18_retouch_X12_init : GoodIn wsX18_retouch wsX12_init := goodIn_r _ [48, 49, 50, 51, 52, 53, 436, 437] (by decide +kernel) (by decide +kernel)
set_option maxRecDepth 20000 in
theorem gX18_retouch_X12_init : GoodIn wsX18_retouch (wsX12_init) := ggX18_retouch_X12_init
set_option maxRecDepth 20000 in
theorem ggX18_retouch_X18_keeps : GoodIn wsX18_retouch wsX18_keeps := goodIn_ca (goodIn_r _ [57, 58, 59, 60, 61, 62, 63, 64, 65, 66, 67, 68, 69, 70, 71, 72, 73, 74, 75, 76, 77, 78, 79, 80, 81, 82, 50, 51, 83, 84, 85, 16, 86, 87, 88, 89, 90, 91, 42, 92, 93, 94, 95, 96, 97, 98, 99, 100, 101, 102, 103, 104, 105, 106, 107, 108, 109, 110, 111, 112, 113, 114, 115, 18, 116, 117, 118, 119, 120, 121, 122, 123, 124, 125, 126, 127, 128, 129, 130, 131, 132, 133, 134, 135, 136, 137, 138, 139, 140, 141, 142, 143, 144, 145, 146, 147, 148, 149, 150, 151, 152, 153, 154, 155, 156, 157, 158, 159, 160, 161, 162, 163, 164, 165, 166, 167, 168, 169, 170, 171, 172, 173, 174, 175, 176, 177, 178, 179, 180, 181, 182, 183, 184, 185, 186, 187, 188, 189, 190, 191, 192, 193, 194, 195, 196, 197, 198, 199, 200, 201, 202, 203, 204, 205, 206, 207, 208, 209, 210, 211, 212, 213, 27, 28, 29, 30, 31, 32, 33, 34, 35, 36, 37, 38, 39, 40, 41, 214, 215, 216, 217, 218, 14, 15, 17, 219, 220, 221, 222, 223, 224, 225, 226, 227, 228, 229, 230, 231, 232, 233, 234, 235, 236, 237, 238, 239, 240, 241, 242, 243, 244, 245, 246, 247, 248, 249, 250, 251, 252, 253, 254, 255, 256, 257, 258, 259, 260, 261, 262, 263, 264, 265, 266, 267, 268, 269, 270, 271, 272, 273, 274, 275, 276, 277, 278, 279, 280, 281, 282, 283, 284, 285, 286, 287, 288, 289, 290, 291, 292, 293, 294, 295, 296, 297, 298, 299, 300, 301, 302, 303, 304, 305, 306, 307, 308, 309, 310, 311, 312, 313, 314, 315, 316, 317, 318, 319, 320, 321, 322, 323, 324, 325, 326, 327, 328, 329, 330, 331, 332, 333, 334, 335, 336, 337, 338, 339, 340, 341, 342, 343, 344, 345, 346, 347, 348, 349, 350, 351, 352, 353, 354, 355, 356, 357, 358, 359, 360, 361, 362, 363, 364, 365, 366, 367, 368, 369, 370, 371, 372, 373, 374, 375, 376, 377, 378, 379, 380, 20, 11, 21, 381, 382, 383, 384, 385, 386, 387, 388, 389, 390, 391, 392, 393, 394, 395, 396, 397, 398, 399, 400, 401, 402, 403, 404, 405, 406, 407, 22, 23, 24, 25, 1, 13, 408, 409, 410, 411, 412, 413, 414, 415, 416, 417, 418, 419, 420, 421, 422, 423, 424, 425, 441, 442, 443, 444, 445, 446, 447, 448, 449, 450, 451, 452, 453, 454, 438, 439, 440, 455, 456, 457, 458, 436, 437, 426, 427, 428, 429, 430, 431, 432, 433, 434, 435, 459, 460, 461, 462, 463, 464] (by decide +kernel) (by decide +kernel)) (goodIn_sub (fun _ h => List.mem_cons_of_mem _ (List.mem_append_right _ h)) (by decide +kernel))
set_option maxRecDepth 20000 in
theorem gX18_retouch_X18_keeps : GoodIn wsX18_retouch (wsV RX18 133 RX18 yX18_keeps wsX18_keeps) := goodIn_app (goodIn_of _ (by decide +kernel)) ggX18_retouch_X18_keeps
theorem dX18_retouch_0 : decode cX18_retouch 0 = .ok (.aload_n 0, 1) := by decide +kernel
theorem dX18_retouch_1 : decode cX18_retouch 1 = .ok (.iconst 0, 1) := by decide +kernel
theorem dX18_retouch_2 : decode cX18_retouch 2 = .ok (.putfield 67, 3) := by decide +kernel
theorem dX18_retouch_5 : decode cX18_retouch 5 = .ok (.aload_n 0, 1) := by decide +kernel
theorem dX18_retouch_6 : decode cX18_retouch 6 = .ok (.iload_n 1, 1) := by decide +kernel
theorem dX18_retouch_7 : decode cX18_retouch 7 = .ok (.invokevirtual 100, 3) := by decide +kernel
theorem dX18_retouch_10 : decode cX18_retouch 10 = .ok (.ifCond .ne 9, 3) := by decide +kernel
theorem dX18_retouch_13 : decode cX18_retouch 13 = .ok (.aload_n 0, 1) := by decide +kernel
theorem dX18_retouch_14 : decode cX18_retouch 14 = .ok (.iconst 1, 1) := by decide +kernel
theorem dX18_retouch_15 : decode cX18_retouch 15 = .ok (.invokevirtual 88, 3) := by decide +kernel
theorem dX18_retouch_18 : decode cX18_retouch 18 = .ok (.ireturn, 1) := by decide +kernel
theorem dX18_retouch_19 : decode cX18_retouch 19 = .ok (.aload_n 0, 1) := by decide +kernel
theorem dX18_retouch_20 : decode cX18_retouch 20 = .ok (.getfield 10, 3) := by decide +kernel
theorem dX18_retouch_23 : decode cX18_retouch 23 = .ok (.iload_n 1, 1) := by decide +kernel
theorem dX18_retouch_24 : decode cX18_retouch 24 = .ok (.invokeinterface 148 2, 5) := by decide +kernel
theorem dX18_retouch_29 : decode cX18_retouch 29 = .ok (.checkcast 91, 3) := by decide +kernel
theorem dX18_retouch_32 : decode cX18_retouch 32 = .ok (.getfield 200, 3) := by decide +kernel
theorem dX18_retouch_35 : decode cX18_retouch 35 = .ok (.bipush 114, 2) := by decide +kernel
theorem dX18_retouch_37 : decode cX18_retouch 37 = .ok (.if_icmp .ne 60, 3) := by decide +kernel
theorem dX18_retouch_40 : decode cX18_retouch 40 = .ok (.iload_n 2, 1) := by decide +kernel
theorem dX18_retouch_41 : decode cX18_retouch 41 = .ok (.iload_n 3, 1) := by decide +kernel
theorem dX18_retouch_42 : decode cX18_retouch 42 = .ok (.invokestatic 124, 3) := by decide +kernel
theorem dX18_retouch_45 : decode cX18_retouch 45 = .ok (.ifCond .eq 52, 3) := by decide +kernel
theorem dX18_retouch_48 : decode cX18_retouch 48 = .ok (.iload 4, 2) := by decide +kernel
theorem dX18_retouch_50 : decode cX18_retouch 50 = .ok (.iconst 0, 1) := by decide +kernel
theorem dX18_retouch_51 : decode cX18_retouch 51 = .ok (.bipush 99, 2) := by decide +kernel
theorem dX18_retouch_53 : decode cX18_retouch 53 = .ok (.invokestatic 70, 3) := by decide +kernel
theorem dX18_retouch_56 : decode cX18_retouch 56 = .ok (.ifCond .eq 41, 3) := by decide +kernel
theorem dX18_retouch_59 : decode cX18_retouch 59 = .ok (.aload_n 0, 1) := by decide +kernel
theorem dX18_retouch_60 : decode cX18_retouch 60 = .ok (.new 128, 3) := by decide +kernel
theorem dX18_retouch_63 : decode cX18_retouch 63 = .ok (.dup, 1) := by decide +kernel
theorem dX18_retouch_64 : decode cX18_retouch 64 = .ok (.bipush 114, 2) := by decide +kernel
theorem dX18_retouch_66 : decode cX18_retouch 66 = .ok (.iconst 3, 1) := by decide +kernel
theorem dX18_retouch_67 : decode cX18_retouch 67 = .ok (.newarray .int, 2) := by decide +kernel
theorem dX18_retouch_69 : decode cX18_retouch 69 = .ok (.dup, 1) := by decide +kernel
theorem dX18_retouch_70 : decode cX18_retouch 70 = .ok (.iconst 0, 1) := by decide +kernel
theorem dX18_retouch_71 : decode cX18_retouch 71 = .ok (.bipush 8, 2) := by decide +kernel
theorem dX18_retouch_73 : decode cX18_retouch 73 = .ok (.iload_n 3, 1) := by decide +kernel
theorem dX18_retouch_74 : decode cX18_retouch 74 = .ok (.imul, 1) := by decide +kernel
theorem dX18_retouch_75 : decode cX18_retouch 75 = .ok (.iload_n 2, 1) := by decide +kernel
theorem dX18_retouch_76 : decode cX18_retouch 76 = .ok (.iadd, 1) := by decide +kernel
theorem dX18_retouch_77 : decode cX18_retouch 77 = .ok (.iastore, 1) := by decide +kernel
theorem dX18_retouch_78 : decode cX18_retouch 78 = .ok (.dup, 1) := by decide +kernel
theorem dX18_retouch_79 : decode cX18_retouch 79 = .ok (.iconst 1, 1) := by decide +kernel
theorem dX18_retouch_80 : decode cX18_retouch 80 = .ok (.iload_n 1, 1) := by decide +kernel
theorem dX18_retouch_81 : decode cX18_retouch 81 = .ok (.iastore, 1) := by decide +kernel
theorem dX18_retouch_82 : decode cX18_retouch 82 = .ok (.dup, 1) := by decide +kernel
theorem dX18_retouch_83 : decode cX18_retouch 83 = .ok (.iconst 2, 1) := by decide +kernel
theorem dX18_retouch_84 : decode cX18_retouch 84 = .ok (.iload 4, 2) := by decide +kernel
theorem dX18_retouch_86 : decode cX18_retouch 86 = .ok (.iastore, 1) := by decide +kernel
theorem dX18_retouch_87 : decode cX18_retouch 87 = .ok (.invokespecial 130, 3) := by decide +kernel
theorem dX18_retouch_90 : decode cX18_retouch 90 = .ok (.iconst 3, 1) := by decide +kernel
theorem dX18_retouch_91 : decode cX18_retouch 91 = .ok (.invokevirtual 133, 3) := by decide +kernel
theorem dX18_retouch_94 : decode cX18_retouch 94 = .ok (.goto 8, 3) := by decide +kernel
theorem dX18_retouch_97 : decode cX18_retouch 97 = .ok (.aload_n 0, 1) := by decide +kernel
theorem dX18_retouch_98 : decode cX18_retouch 98 = .ok (.iconst 2, 1) := by decide +kernel
theorem dX18_retouch_99 : decode cX18_retouch 99 = .ok (.invokevirtual 88, 3) := by decide +kernel
theorem dX18_retouch_102 : decode cX18_retouch 102 = .ok (.ireturn, 1) := by decide +kernel
set_option maxRecDepth 20000 in
theorem ggX18_retouched_X18_isPlace : GoodIn wsX18_retouched wsX18_isPlace := goodIn_r _ [6, 7, 8, 5, 9] (by decide +kernel) (by decide +kernel)
set_option maxRecDepth 20000 in
theorem gX18_retouched_X18_isPlace : GoodIn wsX18_retouched (va_wsS RX18 124 yX18_isPlace wsX18_isPlace) := goodIn_app (goodIn_of _ (by decide +kernel)) ggX18_retouched_X18_isPlace
set_option maxRecDepth 20000 in
theorem ggX18_retouched_X15_top : GoodIn wsX18_retouched wsX15_top := goodIn_r _ [14, 15, 16, 17, 18, 19, 20, 21, 22, 23, 24, 25, 26, 27, 28, 29, 30, 31, 32, 33, 34, 35, 36, 37, 38, 39, 40, 41, 42, 43, 82, 83, 84, 85, 86, 87] (by decide +kernel) (by decide +kernel)
set_option maxRecDepth 20000 in
theorem gX18_retouched_X15_top : GoodIn wsX18_retouched (wsV RX18 283 RX15 yX15_top wsX15_top) := goodIn_app (goodIn_of _ (by decide +kernel)) ggX18_retouched_X15_top
theorem dX18_retouched_0 : decode cX18_retouched 0 = .ok (.aload_n 0, 1) := by decide +kernel
theorem dX18_retouched_1 : decode cX18_retouched 1 = .ok (.iconst 0, 1) := by decide +kernel
theorem dX18_retouched_2 : decode cX18_retouched 2 = .ok (.putfield 67, 3) := by decide +kernel
theorem dX18_retouched_5 : decode cX18_retouched 5 = .ok (.iload_n 1, 1) := by decide +kernel
theorem dX18_retouched_6 : decode cX18_retouched 6 = .ok (.iload_n 2, 1) := by decide +kernel
theorem dX18_retouched_7 : decode cX18_retouched 7 = .ok (.invokestatic 124, 3) := by decide +kernel
theorem dX18_retouched_10 : decode cX18_retouched 10 = .ok (.ifCond .ne 10, 3) := by decide +kernel
theorem dX18_retouched_13 : decode cX18_retouched 13 = .ok (.aload_n 0, 1) := by decide +kernel
theorem dX18_retouched_14 : decode cX18_retouched 14 = .ok (.iconst 1, 1) := by decide +kernel
theorem dX18_retouched_15 : decode cX18_retouched 15 = .ok (.putfield 67, 3) := by decide +kernel
theorem dX18_retouched_18 : decode cX18_retouched 18 = .ok (.aconst_null, 1) := by decide +kernel
theorem dX18_retouched_19 : decode cX18_retouched 19 = .ok (.areturn, 1) := by decide +kernel
theorem dX18_retouched_20 : decode cX18_retouched 20 = .ok (.aload_n 0, 1) := by decide +kernel
theorem dX18_retouched_21 : decode cX18_retouched 21 = .ok (.getfield 25, 3) := by decide +kernel
theorem dX18_retouched_24 : decode cX18_retouched 24 = .ok (.getfield 137, 3) := by decide +kernel
theorem dX18_retouched_27 : decode cX18_retouched 27 = .ok (.bipush 8, 2) := by decide +kernel
theorem dX18_retouched_29 : decode cX18_retouched 29 = .ok (.iload_n 2, 1) := by decide +kernel
theorem dX18_retouched_30 : decode cX18_retouched 30 = .ok (.imul, 1) := by decide +kernel
theorem dX18_retouched_31 : decode cX18_retouched 31 = .ok (.iload_n 1, 1) := by decide +kernel
theorem dX18_retouched_32 : decode cX18_retouched 32 = .ok (.iadd, 1) := by decide +kernel
theorem dX18_retouched_33 : decode cX18_retouched 33 = .ok (.aaload, 1) := by decide +kernel
theorem dX18_retouched_34 : decode cX18_retouched 34 = .ok (.astore_n 3, 1) := by decide +kernel
theorem dX18_retouched_35 : decode cX18_retouched 35 = .ok (.aload_n 0, 1) := by decide +kernel
theorem dX18_retouched_36 : decode cX18_retouched 36 = .ok (.aload_n 3, 1) := by decide +kernel
theorem dX18_retouched_37 : decode cX18_retouched 37 = .ok (.invokevirtual 283, 3) := by decide +kernel
theorem dX18_retouched_40 : decode cX18_retouched 40 = .ok (.ifnull 22, 3) := by decide +kernel
theorem dX18_retouched_43 : decode cX18_retouched 43 = .ok (.aload_n 3, 1) := by decide +kernel
theorem dX18_retouched_44 : decode cX18_retouched 44 = .ok (.invokevirtual 283, 3) := by decide +kernel
theorem dX18_retouched_47 : decode cX18_retouched 47 = .ok (.getfield 154, 3) := by decide +kernel
theorem dX18_retouched_50 : decode cX18_retouched 50 = .ok (.getfield 200, 3) := by decide +kernel
theorem dX18_retouched_53 : decode cX18_retouched 53 = .ok (.bipush 114, 2) := by decide +kernel
theorem dX18_retouched_55 : decode cX18_retouched 55 = .ok (.if_icmp .ne 7, 3) := by decide +kernel
theorem dX18_retouched_58 : decode cX18_retouched 58 = .ok (.iconst 0, 1) := by decide +kernel
theorem dX18_retouched_59 : decode cX18_retouched 59 = .ok (.goto 4, 3) := by decide +kernel
theorem dX18_retouched_62 : decode cX18_retouched 62 = .ok (.iconst 2, 1) := by decide +kernel
theorem dX18_retouched_63 : decode cX18_retouched 63 = .ok (.putfield 67, 3) := by decide +kernel
theorem dX18_retouched_66 : decode cX18_retouched 66 = .ok (.aload_n 0, 1) := by decide +kernel
theorem dX18_retouched_67 : decode cX18_retouched 67 = .ok (.getfield 67, 3) := by decide +kernel
theorem dX18_retouched_70 : decode cX18_retouched 70 = .ok (.ifCond .le 7, 3) := by decide +kernel
theorem dX18_retouched_73 : decode cX18_retouched 73 = .ok (.aconst_null, 1) := by decide +kernel
theorem dX18_retouched_74 : decode cX18_retouched 74 = .ok (.goto 7, 3) := by decide +kernel
theorem dX18_retouched_77 : decode cX18_retouched 77 = .ok (.aload_n 3, 1) := by decide +kernel
theorem dX18_retouched_78 : decode cX18_retouched 78 = .ok (.getfield 141, 3) := by decide +kernel
theorem dX18_retouched_81 : decode cX18_retouched 81 = .ok (.areturn, 1) := by decide +kernel
set_option maxRecDepth 20000 in
theorem ggX18_isTold_X18_retouched : GoodIn wsX18_isTold wsX18_retouched := goodIn_r _ [10, 11, 12, 13, 14, 9, 15, 16, 17, 18, 19, 20, 21, 22, 23, 24, 25, 26, 27, 28, 29, 30, 31, 32, 33, 34, 35, 36, 37, 38, 39, 40, 41, 42, 43, 44, 45, 46, 47, 48, 49, 50, 51, 52, 70, 71, 72, 73, 74, 75, 76, 77, 78, 79, 80, 81, 82, 83, 84, 85, 86, 87, 88, 89, 90, 91, 92, 55, 56, 57, 58, 59, 60, 61, 62, 63, 64, 65, 66, 67, 68, 69, 93, 94, 95, 96, 97, 98] (by decide +kernel) (by decide +kernel)
set_option maxRecDepth 20000 in
theorem gX18_isTold_X18_retouched : GoodIn wsX18_isTold (wsV RX18 287 RX18 yX18_retouched wsX18_retouched) := goodIn_app (goodIn_of _ (by decide +kernel)) ggX18_isTold_X18_retouched
set_option maxRecDepth 20000 in
theorem ggX18_isTold_Jx4a65c_size_8abf5 : GoodIn wsX18_isTold wsJx4a65c_size_8abf5 := goodIn_r _ [35, 31, 96, 97, 98] (by decide +kernel) (by decide +kernel)
set_option maxRecDepth 20000 in
theorem gX18_isTold_Jx4a65c_size_8abf5_f74Jx4a65c : GoodIn wsX18_isTold (va_wsF RX18 74 RJx4a65c ⟨"java/util/List", "size", "()I"⟩ yJx4a65c_size_8abf5 wsJx4a65c_size_8abf5) := goodIn_app (goodIn_of _ (by decide +kernel)) ggX18_isTold_Jx4a65c_size_8abf5
set_option maxRecDepth 20000 in
theorem ggX18_isTold_Jx4a65c_get_915e3 : GoodIn wsX18_isTold wsJx4a65c_get_915e3 := goodIn_r _ [39, 31, 40, 41, 42, 43, 44, 45, 46, 47, 48, 49, 50, 29, 51, 52, 96, 97, 98] (by decide +kernel) (by decide +kernel)
set_option maxRecDepth 20000 in
theorem gX18_isTold_Jx4a65c_get_915e3_f148Jx4a65c : GoodIn wsX18_isTold (va_wsF RX18 148 RJx4a65c ⟨"java/util/List", "get", "(I)Ljava/lang/Object;"⟩ yJx4a65c_get_915e3 wsJx4a65c_get_915e3) := goodIn_app (goodIn_of _ (by decide +kernel)) ggX18_isTold_Jx4a65c_get_915e3
theorem dX18_isTold_0 : decode cX18_isTold 0 = .ok (.aload_n 0, 1) := by decide +kernel
theorem dX18_isTold_1 : decode cX18_isTold 1 = .ok (.iload_n 1, 1) := by decide +kernel
theorem dX18_isTold_2 : decode cX18_isTold 2 = .ok (.iload_n 2, 1) := by decide +kernel
theorem dX18_isTold_3 : decode cX18_isTold 3 = .ok (.invokevirtual 287, 3) := by decide +kernel
theorem dX18_isTold_6 : decode cX18_isTold 6 = .ok (.astore_n 3, 1) := by decide +kernel
theorem dX18_isTold_7 : decode cX18_isTold 7 = .ok (.aload_n 3, 1) := by decide +kernel
theorem dX18_isTold_8 : decode cX18_isTold 8 = .ok (.ifnonnull 5, 3) := by decide +kernel
theorem dX18_isTold_11 : decode cX18_isTold 11 = .ok (.iconst 0, 1) := by decide +kernel
theorem dX18_isTold_12 : decode cX18_isTold 12 = .ok (.ireturn, 1) := by decide +kernel
theorem dX18_isTold_13 : decode cX18_isTold 13 = .ok (.aload_n 3, 1) := by decide +kernel
theorem dX18_isTold_14 : decode cX18_isTold 14 = .ok (.invokeinterface 74 1, 5) := by decide +kernel
theorem dX18_isTold_19 : decode cX18_isTold 19 = .ok (.istore 4, 2) := by decide +kernel
theorem dX18_isTold_21 : decode cX18_isTold 21 = .ok (.iload 4, 2) := by decide +kernel
theorem dX18_isTold_23 : decode cX18_isTold 23 = .ok (.iconst 1, 1) := by decide +kernel
theorem dX18_isTold_24 : decode cX18_isTold 24 = .ok (.if_icmp .eq 49, 3) := by decide +kernel
theorem dX18_isTold_27 : decode cX18_isTold 27 = .ok (.aload_n 3, 1) := by decide +kernel
theorem dX18_isTold_28 : decode cX18_isTold 28 = .ok (.iload 4, 2) := by decide +kernel
theorem dX18_isTold_30 : decode cX18_isTold 30 = .ok (.iconst 1, 1) := by decide +kernel
theorem dX18_isTold_31 : decode cX18_isTold 31 = .ok (.isub, 1) := by decide +kernel
theorem dX18_isTold_32 : decode cX18_isTold 32 = .ok (.invokeinterface 148 2, 5) := by decide +kernel
theorem dX18_isTold_37 : decode cX18_isTold 37 = .ok (.checkcast 152, 3) := by decide +kernel
theorem dX18_isTold_40 : decode cX18_isTold 40 = .ok (.getfield 154, 3) := by decide +kernel
theorem dX18_isTold_43 : decode cX18_isTold 43 = .ok (.getfield 291, 3) := by decide +kernel
theorem dX18_isTold_46 : decode cX18_isTold 46 = .ok (.aload_n 3, 1) := by decide +kernel
theorem dX18_isTold_47 : decode cX18_isTold 47 = .ok (.iload 4, 2) := by decide +kernel
theorem dX18_isTold_49 : decode cX18_isTold 49 = .ok (.iconst 2, 1) := by decide +kernel
theorem dX18_isTold_50 : decode cX18_isTold 50 = .ok (.isub, 1) := by decide +kernel
theorem dX18_isTold_51 : decode cX18_isTold 51 = .ok (.invokeinterface 148 2, 5) := by decide +kernel
theorem dX18_isTold_56 : decode cX18_isTold 56 = .ok (.checkcast 152, 3) := by decide +kernel
theorem dX18_isTold_59 : decode cX18_isTold 59 = .ok (.getfield 154, 3) := by decide +kernel
theorem dX18_isTold_62 : decode cX18_isTold 62 = .ok (.getfield 291, 3) := by decide +kernel
theorem dX18_isTold_65 : decode cX18_isTold 65 = .ok (.isub, 1) := by decide +kernel
theorem dX18_isTold_66 : decode cX18_isTold 66 = .ok (.invokestatic 119, 3) := by decide +kernel
theorem dX18_isTold_69 : decode cX18_isTold 69 = .ok (.iconst 2, 1) := by decide +kernel
theorem dX18_isTold_70 : decode cX18_isTold 70 = .ok (.if_icmp .lt 7, 3) := by decide +kernel
theorem dX18_isTold_73 : decode cX18_isTold 73 = .ok (.iconst 1, 1) := by decide +kernel
theorem dX18_isTold_74 : decode cX18_isTold 74 = .ok (.goto 4, 3) := by decide +kernel
theorem dX18_isTold_77 : decode cX18_isTold 77 = .ok (.iconst 0, 1) := by decide +kernel
theorem dX18_isTold_78 : decode cX18_isTold 78 = .ok (.ireturn, 1) := by decide +kernel
set_option maxRecDepth 20000 in
theorem ggX18_comesOff_X18_retouched : GoodIn wsX18_comesOff wsX18_retouched := goodIn_r _ [8, 9, 10, 11, 12, 7, 13, 14, 15, 16, 17, 18, 19, 20, 21, 22, 23, 24, 25, 26, 27, 28, 29, 30, 31, 32, 33, 34, 35, 36, 37, 38, 39, 40, 41, 42, 43, 44, 45, 46, 47, 48, 49, 50, 157, 158, 159, 160, 161, 162, 163, 164, 165, 166, 167, 168, 169, 170, 171, 172, 173, 174, 175, 176, 177, 178, 179, 152, 153, 154, 155, 156, 180, 181, 182, 183, 184, 185, 186, 187, 188, 189, 190, 191, 192, 193, 194, 195] (by decide +kernel) (by decide +kernel)
set_option maxRecDepth 20000 in
theorem gX18_comesOff_X18_retouched : GoodIn wsX18_comesOff (wsV RX18 287 RX18 yX18_retouched wsX18_retouched) := goodIn_app (goodIn_of _ (by decide +kernel)) ggX18_comesOff_X18_retouched
set_option maxRecDepth 20000 in
theorem ggX18_comesOff_Jx4a65c_size_8abf5 : GoodIn wsX18_comesOff wsJx4a65c_size_8abf5 := goodIn_r _ [33, 29, 193, 194, 195] (by decide +kernel) (by decide +kernel)
set_option maxRecDepth 20000 in
theorem gX18_comesOff_Jx4a65c_size_8abf5_f74Jx4a65c : GoodIn wsX18_comesOff (va_wsF RX18 74 RJx4a65c ⟨"java/util/List", "size", "()I"⟩ yJx4a65c_size_8abf5 wsJx4a65c_size_8abf5) := goodIn_app (goodIn_of _ (by decide +kernel)) ggX18_comesOff_Jx4a65c_size_8abf5
set_option maxRecDepth 20000 in
theorem ggX18_comesOff_Jx4a65c_get_915e3 : GoodIn wsX18_comesOff wsJx4a65c_get_915e3 := goodIn_r _ [37, 29, 38, 39, 40, 41, 42, 43, 44, 45, 46, 47, 48, 27, 49, 50, 193, 194, 195] (by decide +kernel) (by decide +kernel)
set_option maxRecDepth 20000 in
theorem gX18_comesOff_Jx4a65c_get_915e3_f148Jx4a65c : GoodIn wsX18_comesOff (va_wsF RX18 148 RJx4a65c ⟨"java/util/List", "get", "(I)Ljava/lang/Object;"⟩ yJx4a65c_get_915e3 wsJx4a65c_get_915e3) := goodIn_app (goodIn_of _ (by decide +kernel)) ggX18_comesOff_Jx4a65c_get_915e3
set_option maxRecDepth 20000 in
theorem ggX18_comesOff_X17_goesBy : GoodIn wsX18_comesOff wsX17_goesBy := goodIn_r _ [57, 58, 59, 60, 61, 62, 63, 64, 65, 66, 67, 68, 69, 70, 71, 72, 73, 74, 75, 76, 77, 78, 79, 80, 81, 82, 83, 84, 85, 86, 87, 88, 89, 90, 91, 92, 93, 94, 95, 96, 97, 98, 99, 100, 101, 102, 103, 104, 105, 106, 107, 108, 109, 110, 111, 112, 113, 114, 115, 116, 117, 118, 119, 120, 121, 122, 44, 123, 124, 125, 126, 127, 128, 129, 130, 131, 132, 133, 134, 135, 136, 137, 138, 139, 140, 141, 142, 143, 144, 145, 146, 147, 180, 181, 182, 183, 184, 185, 186, 187, 188, 189, 196, 197, 198, 199] (by decide +kernel) (by decide +kernel)
set_option maxRecDepth 20000 in
theorem gX18_comesOff_X17_goesBy : GoodIn wsX18_comesOff (wsV RX18 294 RX17 yX17_goesBy wsX17_goesBy) := goodIn_app (goodIn_of _ (by decide +kernel)) ggX18_comesOff_X17_goesBy
set_option maxRecDepth 20000 in
theorem ggX18_comesOff_X17_swellsBy : GoodIn wsX18_comesOff wsX17_swellsBy := goodIn_r _ [151, 58, 59, 180, 181, 182, 183, 184, 185, 186, 187, 188, 189] (by decide +kernel) (by decide +kernel)
set_option maxRecDepth 20000 in
theorem gX18_comesOff_X17_swellsBy : GoodIn wsX18_comesOff (wsV RX18 297 RX17 yX17_swellsBy wsX17_swellsBy) := goodIn_app (goodIn_of _ (by decide +kernel)) ggX18_comesOff_X17_swellsBy
theorem dX18_comesOff_0 : decode cX18_comesOff 0 = .ok (.aload_n 0, 1) := by decide +kernel
theorem dX18_comesOff_1 : decode cX18_comesOff 1 = .ok (.iload_n 1, 1) := by decide +kernel
theorem dX18_comesOff_2 : decode cX18_comesOff 2 = .ok (.iload_n 2, 1) := by decide +kernel
theorem dX18_comesOff_3 : decode cX18_comesOff 3 = .ok (.invokevirtual 287, 3) := by decide +kernel
theorem dX18_comesOff_6 : decode cX18_comesOff 6 = .ok (.astore_n 3, 1) := by decide +kernel
theorem dX18_comesOff_7 : decode cX18_comesOff 7 = .ok (.aload_n 3, 1) := by decide +kernel
theorem dX18_comesOff_8 : decode cX18_comesOff 8 = .ok (.ifnonnull 5, 3) := by decide +kernel
theorem dX18_comesOff_11 : decode cX18_comesOff 11 = .ok (.iconst 0, 1) := by decide +kernel
theorem dX18_comesOff_12 : decode cX18_comesOff 12 = .ok (.ireturn, 1) := by decide +kernel
theorem dX18_comesOff_13 : decode cX18_comesOff 13 = .ok (.aload_n 3, 1) := by decide +kernel
theorem dX18_comesOff_14 : decode cX18_comesOff 14 = .ok (.aload_n 3, 1) := by decide +kernel
theorem dX18_comesOff_15 : decode cX18_comesOff 15 = .ok (.invokeinterface 74 1, 5) := by decide +kernel
theorem dX18_comesOff_20 : decode cX18_comesOff 20 = .ok (.iconst 1, 1) := by decide +kernel
theorem dX18_comesOff_21 : decode cX18_comesOff 21 = .ok (.isub, 1) := by decide +kernel
theorem dX18_comesOff_22 : decode cX18_comesOff 22 = .ok (.invokeinterface 148 2, 5) := by decide +kernel
theorem dX18_comesOff_27 : decode cX18_comesOff 27 = .ok (.checkcast 152, 3) := by decide +kernel
theorem dX18_comesOff_30 : decode cX18_comesOff 30 = .ok (.getfield 154, 3) := by decide +kernel
theorem dX18_comesOff_33 : decode cX18_comesOff 33 = .ok (.astore 4, 2) := by decide +kernel
theorem dX18_comesOff_35 : decode cX18_comesOff 35 = .ok (.aload_n 3, 1) := by decide +kernel
theorem dX18_comesOff_36 : decode cX18_comesOff 36 = .ok (.invokeinterface 74 1, 5) := by decide +kernel
theorem dX18_comesOff_41 : decode cX18_comesOff 41 = .ok (.iconst 1, 1) := by decide +kernel
theorem dX18_comesOff_42 : decode cX18_comesOff 42 = .ok (.if_icmp .ne 7, 3) := by decide +kernel
theorem dX18_comesOff_45 : decode cX18_comesOff 45 = .ok (.aconst_null, 1) := by decide +kernel
theorem dX18_comesOff_46 : decode cX18_comesOff 46 = .ok (.goto 23, 3) := by decide +kernel
theorem dX18_comesOff_49 : decode cX18_comesOff 49 = .ok (.aload_n 3, 1) := by decide +kernel
theorem dX18_comesOff_50 : decode cX18_comesOff 50 = .ok (.aload_n 3, 1) := by decide +kernel
theorem dX18_comesOff_51 : decode cX18_comesOff 51 = .ok (.invokeinterface 74 1, 5) := by decide +kernel
theorem dX18_comesOff_56 : decode cX18_comesOff 56 = .ok (.iconst 2, 1) := by decide +kernel
theorem dX18_comesOff_57 : decode cX18_comesOff 57 = .ok (.isub, 1) := by decide +kernel
theorem dX18_comesOff_58 : decode cX18_comesOff 58 = .ok (.invokeinterface 148 2, 5) := by decide +kernel
theorem dX18_comesOff_63 : decode cX18_comesOff 63 = .ok (.checkcast 152, 3) := by decide +kernel
theorem dX18_comesOff_66 : decode cX18_comesOff 66 = .ok (.getfield 154, 3) := by decide +kernel
theorem dX18_comesOff_69 : decode cX18_comesOff 69 = .ok (.astore 5, 2) := by decide +kernel
theorem dX18_comesOff_71 : decode cX18_comesOff 71 = .ok (.iconst 0, 1) := by decide +kernel
theorem dX18_comesOff_72 : decode cX18_comesOff 72 = .ok (.istore 6, 2) := by decide +kernel
theorem dX18_comesOff_74 : decode cX18_comesOff 74 = .ok (.iload 6, 2) := by decide +kernel
theorem dX18_comesOff_76 : decode cX18_comesOff 76 = .ok (.aload_n 0, 1) := by decide +kernel
theorem dX18_comesOff_77 : decode cX18_comesOff 77 = .ok (.getfield 58, 3) := by decide +kernel
theorem dX18_comesOff_80 : decode cX18_comesOff 80 = .ok (.invokeinterface 74 1, 5) := by decide +kernel
theorem dX18_comesOff_85 : decode cX18_comesOff 85 = .ok (.if_icmp .ge 77, 3) := by decide +kernel
theorem dX18_comesOff_88 : decode cX18_comesOff 88 = .ok (.aload_n 0, 1) := by decide +kernel
theorem dX18_comesOff_89 : decode cX18_comesOff 89 = .ok (.getfield 58, 3) := by decide +kernel
theorem dX18_comesOff_92 : decode cX18_comesOff 92 = .ok (.iload 6, 2) := by decide +kernel
theorem dX18_comesOff_94 : decode cX18_comesOff 94 = .ok (.invokeinterface 148 2, 5) := by decide +kernel
theorem dX18_comesOff_99 : decode cX18_comesOff 99 = .ok (.checkcast 247, 3) := by decide +kernel
theorem dX18_comesOff_102 : decode cX18_comesOff 102 = .ok (.iconst 0, 1) := by decide +kernel
theorem dX18_comesOff_103 : decode cX18_comesOff 103 = .ok (.iaload, 1) := by decide +kernel
theorem dX18_comesOff_104 : decode cX18_comesOff 104 = .ok (.istore 7, 2) := by decide +kernel
theorem dX18_comesOff_106 : decode cX18_comesOff 106 = .ok (.aload 5, 2) := by decide +kernel
theorem dX18_comesOff_108 : decode cX18_comesOff 108 = .ok (.ifnull 23, 3) := by decide +kernel
theorem dX18_comesOff_111 : decode cX18_comesOff 111 = .ok (.aload 5, 2) := by decide +kernel
theorem dX18_comesOff_113 : decode cX18_comesOff 113 = .ok (.iload 7, 2) := by decide +kernel
theorem dX18_comesOff_115 : decode cX18_comesOff 115 = .ok (.invokevirtual 294, 3) := by decide +kernel
theorem dX18_comesOff_118 : decode cX18_comesOff 118 = .ok (.ifCond .ne 17, 3) := by decide +kernel
theorem dX18_comesOff_121 : decode cX18_comesOff 121 = .ok (.aload 5, 2) := by decide +kernel
theorem dX18_comesOff_123 : decode cX18_comesOff 123 = .ok (.iload 7, 2) := by decide +kernel
theorem dX18_comesOff_125 : decode cX18_comesOff 125 = .ok (.invokevirtual 297, 3) := by decide +kernel
theorem dX18_comesOff_128 : decode cX18_comesOff 128 = .ok (.ifCond .ne 7, 3) := by decide +kernel
theorem dX18_comesOff_131 : decode cX18_comesOff 131 = .ok (.iconst 1, 1) := by decide +kernel
theorem dX18_comesOff_132 : decode cX18_comesOff 132 = .ok (.goto 4, 3) := by decide +kernel
theorem dX18_comesOff_135 : decode cX18_comesOff 135 = .ok (.iconst 0, 1) := by decide +kernel
theorem dX18_comesOff_136 : decode cX18_comesOff 136 = .ok (.istore 8, 2) := by decide +kernel
theorem dX18_comesOff_138 : decode cX18_comesOff 138 = .ok (.aload 4, 2) := by decide +kernel
theorem dX18_comesOff_140 : decode cX18_comesOff 140 = .ok (.iload 7, 2) := by decide +kernel
theorem dX18_comesOff_142 : decode cX18_comesOff 142 = .ok (.invokevirtual 294, 3) := by decide +kernel
theorem dX18_comesOff_145 : decode cX18_comesOff 145 = .ok (.ifCond .eq 11, 3) := by decide +kernel
theorem dX18_comesOff_148 : decode cX18_comesOff 148 = .ok (.iload 8, 2) := by decide +kernel
theorem dX18_comesOff_150 : decode cX18_comesOff 150 = .ok (.ifCond .eq 6, 3) := by decide +kernel
theorem dX18_comesOff_153 : decode cX18_comesOff 153 = .ok (.iload 6, 2) := by decide +kernel
theorem dX18_comesOff_155 : decode cX18_comesOff 155 = .ok (.ireturn, 1) := by decide +kernel
theorem dX18_comesOff_156 : decode cX18_comesOff 156 = .ok (.iinc 6 1, 3) := by decide +kernel
theorem dX18_comesOff_159 : decode cX18_comesOff 159 = .ok (.goto (-85), 3) := by decide +kernel
theorem dX18_comesOff_162 : decode cX18_comesOff 162 = .ok (.iconst (-1), 1) := by decide +kernel
theorem dX18_comesOff_163 : decode cX18_comesOff 163 = .ok (.ireturn, 1) := by decide +kernel
set_option maxRecDepth 20000 in
theorem ggX18_glue_X18_isPlace : GoodIn wsX18_glue wsX18_isPlace := goodIn_r _ [9, 10, 11, 8, 12] (by decide +kernel) (by decide +kernel)
set_option maxRecDepth 20000 in
theorem gX18_glue_X18_isPlace : GoodIn wsX18_glue (va_wsS RX18 124 yX18_isPlace wsX18_isPlace) := goodIn_app (goodIn_of _ (by decide +kernel)) ggX18_glue_X18_isPlace
set_option maxRecDepth 20000 in
theorem ggX18_glue_X12_init : GoodIn wsX18_glue wsX12_init := goodIn_r _ [15, 16, 17, 18, 19, 20, 419, 420] (by decide +kernel) (by decide +kernel)
set_option maxRecDepth 20000 in
theorem gX18_glue_X12_init : GoodIn wsX18_glue (wsX12_init) := ggX18_glue_X12_init
set_option maxRecDepth 20000 in
theorem ggX18_glue_X18_keeps : GoodIn wsX18_glue wsX18_keeps := goodIn_ca (goodIn_r _ [24, 25, 26, 27, 28, 29, 30, 31, 32, 33, 34, 35, 36, 37, 38, 39, 40, 41, 42, 43, 44, 45, 46, 47, 48, 49, 17, 18, 50, 51, 52, 53, 54, 55, 56, 57, 58, 59, 60, 61, 62, 63, 64, 65, 66, 67, 68, 69, 70, 71, 72, 73, 74, 75, 76, 77, 78, 79, 80, 81, 82, 83, 84, 85, 86, 87, 88, 89, 90, 91, 92, 93, 94, 95, 96, 97, 98, 99, 100, 101, 102, 103, 104, 105, 106, 107, 108, 109, 110, 111, 112, 113, 114, 115, 116, 117, 118, 119, 120, 121, 122, 123, 124, 125, 126, 127, 128, 129, 130, 131, 132, 133, 134, 135, 136, 137, 138, 139, 140, 141, 142, 143, 144, 145, 146, 147, 148, 149, 150, 151, 152, 153, 154, 155, 156, 157, 158, 159, 160, 161, 162, 163, 164, 165, 166, 167, 168, 169, 170, 171, 172, 173, 174, 175, 176, 177, 178, 179, 180, 181, 182, 183, 184, 185, 186, 187, 188, 189, 190, 191, 192, 193, 194, 195, 196, 197, 198, 199, 200, 201, 202, 203, 204, 205, 206, 207, 208, 209, 210, 211, 212, 213, 214, 215, 216, 217, 218, 219, 220, 221, 222, 223, 224, 225, 226, 227, 228, 229, 230, 231, 232, 233, 234, 235, 236, 237, 238, 239, 240, 241, 242, 243, 244, 245, 246, 247, 248, 249, 250, 251, 252, 253, 254, 255, 256, 257, 258, 259, 260, 261, 262, 263, 264, 265, 266, 267, 268, 269, 270, 271, 272, 273, 274, 275, 276, 277, 278, 279, 280, 281, 282, 283, 284, 285, 286, 287, 288, 289, 290, 291, 292, 293, 294, 295, 296, 297, 298, 299, 300, 301, 302, 303, 304, 305, 306, 307, 308, 309, 310, 311, 312, 313, 314, 315, 316, 317, 318, 319, 320, 321, 322, 323, 324, 325, 326, 327, 328, 329, 330, 331, 332, 333, 334, 335, 336, 337, 338, 339, 340, 341, 342, 343, 344, 345, 346, 347, 348, 349, 350, 351, 352, 353, 354, 355, 356, 357, 358, 359, 360, 361, 362, 363, 364, 365, 366, 367, 368, 11, 8, 12, 369, 370, 371, 372, 373, 374, 375, 376, 377, 378, 379, 380, 381, 382, 383, 384, 385, 386, 387, 388, 389, 390, 391, 392, 393, 394, 395, 396, 397, 398, 399, 1, 400, 401, 402, 403, 404, 405, 406, 407, 408, 409, 410, 411, 412, 413, 414, 415, 416, 417, 418, 421, 422, 423, 424, 425, 426, 427, 428, 429, 430, 431, 432, 433, 434, 435, 436, 437, 438, 439, 440, 441, 419, 420, 442, 443, 444, 445, 446, 447, 448, 449, 450, 451, 452, 453, 454, 455, 456, 457] (by decide +kernel) (by decide +kernel)) (goodIn_sub (fun _ h => List.mem_cons_of_mem _ (List.mem_append_right _ h)) (by decide +kernel))
set_option maxRecDepth 20000 in
theorem gX18_glue_X18_keeps : GoodIn wsX18_glue (wsV RX18 133 RX18 yX18_keeps wsX18_keeps) := goodIn_app (goodIn_of _ (by decide +kernel)) ggX18_glue_X18_keeps
set_option maxRecDepth 20000 in
theorem ggX18_glue_X18_fails : GoodIn wsX18_glue wsX18_fails := goodIn_r _ [399, 1, 402, 403, 404, 405, 406, 407, 408, 409, 410, 411, 412, 413, 414, 415, 416, 417, 418] (by decide +kernel) (by decide +kernel)
set_option maxRecDepth 20000 in
theorem gX18_glue_X18_fails : GoodIn wsX18_glue (wsV RX18 88 RX18 yX18_fails wsX18_fails) := goodIn_app (goodIn_of _ (by decide +kernel)) ggX18_glue_X18_fails
theorem dX18_glue_0 : decode cX18_glue 0 = .ok (.aload_n 0, 1) := by decide +kernel
theorem dX18_glue_1 : decode cX18_glue 1 = .ok (.iconst 0, 1) := by decide +kernel
theorem dX18_glue_2 : decode cX18_glue 2 = .ok (.putfield 67, 3) := by decide +kernel
theorem dX18_glue_5 : decode cX18_glue 5 = .ok (.iload_n 1, 1) := by decide +kernel
theorem dX18_glue_6 : decode cX18_glue 6 = .ok (.iload_n 2, 1) := by decide +kernel
theorem dX18_glue_7 : decode cX18_glue 7 = .ok (.invokestatic 124, 3) := by decide +kernel
theorem dX18_glue_10 : decode cX18_glue 10 = .ok (.ifCond .eq 32, 3) := by decide +kernel
theorem dX18_glue_13 : decode cX18_glue 13 = .ok (.aload_n 0, 1) := by decide +kernel
theorem dX18_glue_14 : decode cX18_glue 14 = .ok (.new 128, 3) := by decide +kernel
theorem dX18_glue_17 : decode cX18_glue 17 = .ok (.dup, 1) := by decide +kernel
theorem dX18_glue_18 : decode cX18_glue 18 = .ok (.bipush 103, 2) := by decide +kernel
theorem dX18_glue_20 : decode cX18_glue 20 = .ok (.iconst 1, 1) := by decide +kernel
theorem dX18_glue_21 : decode cX18_glue 21 = .ok (.newarray .int, 2) := by decide +kernel
theorem dX18_glue_23 : decode cX18_glue 23 = .ok (.dup, 1) := by decide +kernel
theorem dX18_glue_24 : decode cX18_glue 24 = .ok (.iconst 0, 1) := by decide +kernel
theorem dX18_glue_25 : decode cX18_glue 25 = .ok (.bipush 8, 2) := by decide +kernel
theorem dX18_glue_27 : decode cX18_glue 27 = .ok (.iload_n 2, 1) := by decide +kernel
theorem dX18_glue_28 : decode cX18_glue 28 = .ok (.imul, 1) := by decide +kernel
theorem dX18_glue_29 : decode cX18_glue 29 = .ok (.iload_n 1, 1) := by decide +kernel
theorem dX18_glue_30 : decode cX18_glue 30 = .ok (.iadd, 1) := by decide +kernel
theorem dX18_glue_31 : decode cX18_glue 31 = .ok (.iastore, 1) := by decide +kernel
theorem dX18_glue_32 : decode cX18_glue 32 = .ok (.invokespecial 130, 3) := by decide +kernel
theorem dX18_glue_35 : decode cX18_glue 35 = .ok (.iconst (-1), 1) := by decide +kernel
theorem dX18_glue_36 : decode cX18_glue 36 = .ok (.invokevirtual 133, 3) := by decide +kernel
theorem dX18_glue_39 : decode cX18_glue 39 = .ok (.goto 8, 3) := by decide +kernel
theorem dX18_glue_42 : decode cX18_glue 42 = .ok (.aload_n 0, 1) := by decide +kernel
theorem dX18_glue_43 : decode cX18_glue 43 = .ok (.iconst 1, 1) := by decide +kernel
theorem dX18_glue_44 : decode cX18_glue 44 = .ok (.invokevirtual 88, 3) := by decide +kernel
theorem dX18_glue_47 : decode cX18_glue 47 = .ok (.ireturn, 1) := by decide +kernel
set_option maxRecDepth 20000 in
theorem ggX18_threads_X18_in : GoodIn wsX18_threads wsX18_in := goodIn_r _ [12] (by decide +kernel) (by decide +kernel)
set_option maxRecDepth 20000 in
theorem gX18_threads_X18_in : GoodIn wsX18_threads (va_wsS RX18 70 yX18_in wsX18_in) := goodIn_app (goodIn_of _ (by decide +kernel)) ggX18_threads_X18_in
set_option maxRecDepth 20000 in
theorem ggX18_threads_X18_fails : GoodIn wsX18_threads wsX18_fails := goodIn_r _ [16, 1, 17, 18, 19, 20, 21, 22, 23, 24, 25, 26, 27, 28, 29, 30, 31, 32, 33] (by decide +kernel) (by decide +kernel)
set_option maxRecDepth 20000 in
theorem gX18_threads_X18_fails : GoodIn wsX18_threads (wsV RX18 88 RX18 yX18_fails wsX18_fails) := goodIn_app (goodIn_of _ (by decide +kernel)) ggX18_threads_X18_fails
theorem dX18_threads_0 : decode cX18_threads 0 = .ok (.aload_n 0, 1) := by decide +kernel
theorem dX18_threads_1 : decode cX18_threads 1 = .ok (.iconst 0, 1) := by decide +kernel
theorem dX18_threads_2 : decode cX18_threads 2 = .ok (.putfield 67, 3) := by decide +kernel
theorem dX18_threads_5 : decode cX18_threads 5 = .ok (.iload_n 1, 1) := by decide +kernel
theorem dX18_threads_6 : decode cX18_threads 6 = .ok (.iconst 0, 1) := by decide +kernel
theorem dX18_threads_7 : decode cX18_threads 7 = .ok (.ldc_w 300, 3) := by decide +kernel
theorem dX18_threads_10 : decode cX18_threads 10 = .ok (.invokestatic 70, 3) := by decide +kernel
theorem dX18_threads_13 : decode cX18_threads 13 = .ok (.ifCond .ne 9, 3) := by decide +kernel
theorem dX18_threads_16 : decode cX18_threads 16 = .ok (.aload_n 0, 1) := by decide +kernel
theorem dX18_threads_17 : decode cX18_threads 17 = .ok (.iconst 1, 1) := by decide +kernel
theorem dX18_threads_18 : decode cX18_threads 18 = .ok (.invokevirtual 88, 3) := by decide +kernel
theorem dX18_threads_21 : decode cX18_threads 21 = .ok (.ireturn, 1) := by decide +kernel
theorem dX18_threads_22 : decode cX18_threads 22 = .ok (.bipush 17, 2) := by decide +kernel
theorem dX18_threads_24 : decode cX18_threads 24 = .ok (.newarray .int, 2) := by decide +kernel
theorem dX18_threads_26 : decode cX18_threads 26 = .ok (.astore_n 2, 1) := by decide +kernel
theorem dX18_threads_27 : decode cX18_threads 27 = .ok (.iconst 1, 1) := by decide +kernel
theorem dX18_threads_28 : decode cX18_threads 28 = .ok (.istore_n 3, 1) := by decide +kernel
theorem dX18_threads_29 : decode cX18_threads 29 = .ok (.iload_n 3, 1) := by decide +kernel
theorem dX18_threads_30 : decode cX18_threads 30 = .ok (.bipush 17, 2) := by decide +kernel
theorem dX18_threads_32 : decode cX18_threads 32 = .ok (.if_icmp .ge 85, 3) := by decide +kernel
theorem dX18_threads_35 : decode cX18_threads 35 = .ok (.aload_n 2, 1) := by decide +kernel
theorem dX18_threads_36 : decode cX18_threads 36 = .ok (.iload_n 3, 1) := by decide +kernel
theorem dX18_threads_37 : decode cX18_threads 37 = .ok (.ldc 242, 2) := by decide +kernel
theorem dX18_threads_39 : decode cX18_threads 39 = .ok (.iastore, 1) := by decide +kernel
theorem dX18_threads_40 : decode cX18_threads 40 = .ok (.iconst 0, 1) := by decide +kernel
theorem dX18_threads_41 : decode cX18_threads 41 = .ok (.istore 4, 2) := by decide +kernel
theorem dX18_threads_43 : decode cX18_threads 43 = .ok (.iload 4, 2) := by decide +kernel
theorem dX18_threads_45 : decode cX18_threads 45 = .ok (.iload_n 3, 1) := by decide +kernel
theorem dX18_threads_46 : decode cX18_threads 46 = .ok (.if_icmp .ge 65, 3) := by decide +kernel
theorem dX18_threads_49 : decode cX18_threads 49 = .ok (.iload 4, 2) := by decide +kernel
theorem dX18_threads_51 : decode cX18_threads 51 = .ok (.ifCond .le 7, 3) := by decide +kernel
theorem dX18_threads_54 : decode cX18_threads 54 = .ok (.iconst 1, 1) := by decide +kernel
theorem dX18_threads_55 : decode cX18_threads 55 = .ok (.goto 4, 3) := by decide +kernel
theorem dX18_threads_58 : decode cX18_threads 58 = .ok (.iconst 0, 1) := by decide +kernel
theorem dX18_threads_59 : decode cX18_threads 59 = .ok (.iload 4, 2) := by decide +kernel
theorem dX18_threads_61 : decode cX18_threads 61 = .ok (.iload_n 3, 1) := by decide +kernel
theorem dX18_threads_62 : decode cX18_threads 62 = .ok (.iconst 1, 1) := by decide +kernel
theorem dX18_threads_63 : decode cX18_threads 63 = .ok (.isub, 1) := by decide +kernel
theorem dX18_threads_64 : decode cX18_threads 64 = .ok (.if_icmp .ge 7, 3) := by decide +kernel
theorem dX18_threads_67 : decode cX18_threads 67 = .ok (.iconst 1, 1) := by decide +kernel
theorem dX18_threads_68 : decode cX18_threads 68 = .ok (.goto 4, 3) := by decide +kernel
theorem dX18_threads_71 : decode cX18_threads 71 = .ok (.iconst 0, 1) := by decide +kernel
theorem dX18_threads_72 : decode cX18_threads 72 = .ok (.iadd, 1) := by decide +kernel
theorem dX18_threads_73 : decode cX18_threads 73 = .ok (.istore 5, 2) := by decide +kernel
theorem dX18_threads_75 : decode cX18_threads 75 = .ok (.aload_n 2, 1) := by decide +kernel
theorem dX18_threads_76 : decode cX18_threads 76 = .ok (.iload_n 3, 1) := by decide +kernel
theorem dX18_threads_77 : decode cX18_threads 77 = .ok (.aload_n 2, 1) := by decide +kernel
theorem dX18_threads_78 : decode cX18_threads 78 = .ok (.iload_n 3, 1) := by decide +kernel
theorem dX18_threads_79 : decode cX18_threads 79 = .ok (.iaload, 1) := by decide +kernel
theorem dX18_threads_80 : decode cX18_threads 80 = .ok (.iconst 1, 1) := by decide +kernel
theorem dX18_threads_81 : decode cX18_threads 81 = .ok (.iload 5, 2) := by decide +kernel
theorem dX18_threads_83 : decode cX18_threads 83 = .ok (.iload 5, 2) := by decide +kernel
theorem dX18_threads_85 : decode cX18_threads 85 = .ok (.imul, 1) := by decide +kernel
theorem dX18_threads_86 : decode cX18_threads 86 = .ok (.iadd, 1) := by decide +kernel
theorem dX18_threads_87 : decode cX18_threads 87 = .ok (.aload_n 2, 1) := by decide +kernel
theorem dX18_threads_88 : decode cX18_threads 88 = .ok (.iload 4, 2) := by decide +kernel
theorem dX18_threads_90 : decode cX18_threads 90 = .ok (.iaload, 1) := by decide +kernel
theorem dX18_threads_91 : decode cX18_threads 91 = .ok (.iadd, 1) := by decide +kernel
theorem dX18_threads_92 : decode cX18_threads 92 = .ok (.aload_n 2, 1) := by decide +kernel
theorem dX18_threads_93 : decode cX18_threads 93 = .ok (.iload_n 3, 1) := by decide +kernel
theorem dX18_threads_94 : decode cX18_threads 94 = .ok (.iconst 1, 1) := by decide +kernel
theorem dX18_threads_95 : decode cX18_threads 95 = .ok (.isub, 1) := by decide +kernel
theorem dX18_threads_96 : decode cX18_threads 96 = .ok (.iload 4, 2) := by decide +kernel
theorem dX18_threads_98 : decode cX18_threads 98 = .ok (.isub, 1) := by decide +kernel
theorem dX18_threads_99 : decode cX18_threads 99 = .ok (.iaload, 1) := by decide +kernel
theorem dX18_threads_100 : decode cX18_threads 100 = .ok (.iadd, 1) := by decide +kernel
theorem dX18_threads_101 : decode cX18_threads 101 = .ok (.invokestatic 238, 3) := by decide +kernel
theorem dX18_threads_104 : decode cX18_threads 104 = .ok (.iastore, 1) := by decide +kernel
theorem dX18_threads_105 : decode cX18_threads 105 = .ok (.iinc 4 1, 3) := by decide +kernel
theorem dX18_threads_108 : decode cX18_threads 108 = .ok (.goto (-65), 3) := by decide +kernel
theorem dX18_threads_111 : decode cX18_threads 111 = .ok (.iinc 3 1, 3) := by decide +kernel
theorem dX18_threads_114 : decode cX18_threads 114 = .ok (.goto (-85), 3) := by decide +kernel
theorem dX18_threads_117 : decode cX18_threads 117 = .ok (.iconst 0, 1) := by decide +kernel
theorem dX18_threads_118 : decode cX18_threads 118 = .ok (.istore_n 3, 1) := by decide +kernel
theorem dX18_threads_119 : decode cX18_threads 119 = .ok (.iconst 0, 1) := by decide +kernel
theorem dX18_threads_120 : decode cX18_threads 120 = .ok (.istore 4, 2) := by decide +kernel
theorem dX18_threads_122 : decode cX18_threads 122 = .ok (.iconst 0, 1) := by decide +kernel
theorem dX18_threads_123 : decode cX18_threads 123 = .ok (.istore 5, 2) := by decide +kernel
theorem dX18_threads_125 : decode cX18_threads 125 = .ok (.iload 5, 2) := by decide +kernel
theorem dX18_threads_127 : decode cX18_threads 127 = .ok (.bipush 17, 2) := by decide +kernel
theorem dX18_threads_129 : decode cX18_threads 129 = .ok (.if_icmp .ge 57, 3) := by decide +kernel
theorem dX18_threads_132 : decode cX18_threads 132 = .ok (.iload_n 1, 1) := by decide +kernel
theorem dX18_threads_133 : decode cX18_threads 133 = .ok (.iload 5, 2) := by decide +kernel
theorem dX18_threads_135 : decode cX18_threads 135 = .ok (.ishr, 1) := by decide +kernel
theorem dX18_threads_136 : decode cX18_threads 136 = .ok (.iconst 1, 1) := by decide +kernel
theorem dX18_threads_137 : decode cX18_threads 137 = .ok (.iand, 1) := by decide +kernel
theorem dX18_threads_138 : decode cX18_threads 138 = .ok (.iconst 1, 1) := by decide +kernel
theorem dX18_threads_139 : decode cX18_threads 139 = .ok (.if_icmp .ne 7, 3) := by decide +kernel
theorem dX18_threads_142 : decode cX18_threads 142 = .ok (.iconst 1, 1) := by decide +kernel
theorem dX18_threads_143 : decode cX18_threads 143 = .ok (.goto 4, 3) := by decide +kernel
theorem dX18_threads_146 : decode cX18_threads 146 = .ok (.iconst 0, 1) := by decide +kernel
theorem dX18_threads_147 : decode cX18_threads 147 = .ok (.istore 6, 2) := by decide +kernel
theorem dX18_threads_149 : decode cX18_threads 149 = .ok (.iload_n 3, 1) := by decide +kernel
theorem dX18_threads_150 : decode cX18_threads 150 = .ok (.iload 6, 2) := by decide +kernel
theorem dX18_threads_152 : decode cX18_threads 152 = .ok (.ifCond .eq 7, 3) := by decide +kernel
theorem dX18_threads_155 : decode cX18_threads 155 = .ok (.iconst 0, 1) := by decide +kernel
theorem dX18_threads_156 : decode cX18_threads 156 = .ok (.goto 7, 3) := by decide +kernel
theorem dX18_threads_159 : decode cX18_threads 159 = .ok (.aload_n 2, 1) := by decide +kernel
theorem dX18_threads_160 : decode cX18_threads 160 = .ok (.iload 4, 2) := by decide +kernel
theorem dX18_threads_162 : decode cX18_threads 162 = .ok (.iaload, 1) := by decide +kernel
theorem dX18_threads_163 : decode cX18_threads 163 = .ok (.iadd, 1) := by decide +kernel
theorem dX18_threads_164 : decode cX18_threads 164 = .ok (.istore_n 3, 1) := by decide +kernel
theorem dX18_threads_165 : decode cX18_threads 165 = .ok (.iload 6, 2) := by decide +kernel
theorem dX18_threads_167 : decode cX18_threads 167 = .ok (.ifCond .eq 10, 3) := by decide +kernel
theorem dX18_threads_170 : decode cX18_threads 170 = .ok (.iload 4, 2) := by decide +kernel
theorem dX18_threads_172 : decode cX18_threads 172 = .ok (.iconst 1, 1) := by decide +kernel
theorem dX18_threads_173 : decode cX18_threads 173 = .ok (.iadd, 1) := by decide +kernel
theorem dX18_threads_174 : decode cX18_threads 174 = .ok (.goto 4, 3) := by decide +kernel
theorem dX18_threads_177 : decode cX18_threads 177 = .ok (.iconst 0, 1) := by decide +kernel
theorem dX18_threads_178 : decode cX18_threads 178 = .ok (.istore 4, 2) := by decide +kernel
theorem dX18_threads_180 : decode cX18_threads 180 = .ok (.iinc 5 1, 3) := by decide +kernel
theorem dX18_threads_183 : decode cX18_threads 183 = .ok (.goto (-58), 3) := by decide +kernel
theorem dX18_threads_186 : decode cX18_threads 186 = .ok (.iload_n 3, 1) := by decide +kernel
theorem dX18_threads_187 : decode cX18_threads 187 = .ok (.ireturn, 1) := by decide +kernel
set_option maxRecDepth 20000 in
theorem ggX18_ballot_J0_indexOf_0f7a4 : GoodIn wsX18_ballot wsJ0_indexOf_0f7a4 := goodIn_r _ [10, 11, 12, 13, 9, 14, 15, 16, 17, 18, 19, 20, 21, 22, 23, 24, 25, 26, 27, 28, 29, 30, 31, 32, 33, 34, 35, 36, 37, 38, 39, 40, 41, 42, 43, 44, 45, 46, 47, 48, 49, 50, 51, 52, 53, 54, 55, 56, 57, 58, 59, 60, 61, 62, 63, 64, 65, 66, 67, 68, 69, 70, 71, 72, 73, 74, 75, 76, 77, 78, 79, 80, 81, 82, 83, 84, 85, 86, 87, 88, 89, 90, 91, 92, 93, 94, 354, 355, 356, 357] (by decide +kernel) (by decide +kernel)
set_option maxRecDepth 20000 in
theorem gX18_ballot_J0_indexOf_0f7a4 : GoodIn wsX18_ballot (wsV RX18 82 RJ0 yJ0_indexOf_0f7a4 wsJ0_indexOf_0f7a4) := goodIn_app (goodIn_of _ (by decide +kernel)) ggX18_ballot_J0_indexOf_0f7a4
set_option maxRecDepth 20000 in
theorem ggX18_ballot_X18_fails : GoodIn wsX18_ballot wsX18_fails := goodIn_r _ [99, 1, 333, 334, 335, 336, 337, 338, 339, 340, 341, 342, 343, 344, 345, 346, 347, 348, 349] (by decide +kernel) (by decide +kernel)
set_option maxRecDepth 20000 in
theorem gX18_ballot_X18_fails : GoodIn wsX18_ballot (wsV RX18 88 RX18 yX18_fails wsX18_fails) := goodIn_app (goodIn_of _ (by decide +kernel)) ggX18_ballot_X18_fails
set_option maxRecDepth 20000 in
theorem ggX18_ballot_Jx4a65c_size_8abf5 : GoodIn wsX18_ballot wsJx4a65c_size_8abf5 := goodIn_r _ [104, 105, 358, 359, 360] (by decide +kernel) (by decide +kernel)
set_option maxRecDepth 20000 in
theorem gX18_ballot_Jx4a65c_size_8abf5_f74Jx4a65c : GoodIn wsX18_ballot (va_wsF RX18 74 RJx4a65c ⟨"java/util/List", "size", "()I"⟩ yJx4a65c_size_8abf5 wsJx4a65c_size_8abf5) := goodIn_app (goodIn_of _ (by decide +kernel)) ggX18_ballot_Jx4a65c_size_8abf5
set_option maxRecDepth 20000 in
theorem ggX18_ballot_J4_init_da8c8 : GoodIn wsX18_ballot wsJ4_init_da8c8 := goodIn_r _ [108, 109, 110, 111, 112, 113, 114, 115, 116, 117, 118, 119, 120, 121, 49, 122, 123, 124, 125, 126, 350, 351, 352, 353] (by decide +kernel) (by decide +kernel)
set_option maxRecDepth 20000 in
theorem gX18_ballot_J4_init_da8c8 : GoodIn wsX18_ballot (wsJ4_init_da8c8) := ggX18_ballot_J4_init_da8c8
set_option maxRecDepth 20000 in
theorem ggX18_ballot_J4_append_15ec4 : GoodIn wsX18_ballot wsJ4_append_15ec4 := goodIn_r _ [130, 131, 132, 133, 134, 111, 135, 136, 137, 138, 139, 140, 141, 118, 142, 143, 144, 145, 146, 119, 147, 148, 149, 150, 151, 152, 153, 154, 155, 156, 157, 35, 36, 37, 158, 159, 160, 161, 162, 163, 164, 165, 166, 167, 168, 169, 170, 171, 117, 172, 39, 40, 173, 174, 175, 176, 177, 178, 179, 180, 181, 116, 182, 183, 49, 184, 77, 57, 58, 59, 60, 61, 62, 63, 64, 9, 65, 66, 67, 68, 69, 70, 185, 186, 187, 78, 79, 188, 23, 24, 25, 15, 26, 27, 28, 29, 20, 21, 189, 190, 191, 192, 193, 194, 195, 196, 197, 198, 199, 200, 201, 202, 203, 204, 120, 121, 122, 123, 124, 125, 126, 205, 206, 32, 207, 208, 209, 210, 211, 212, 213, 214, 215, 216, 217, 218, 219, 220, 221, 222, 223, 224, 225, 350, 351, 352, 353, 354, 355, 356, 357] (by decide +kernel) (by decide +kernel)
set_option maxRecDepth 20000 in
theorem gX18_ballot_J4_append_15ec4 : GoodIn wsX18_ballot (wsV RX18 308 RJ4 yJ4_append_15ec4 wsJ4_append_15ec4) := goodIn_app (goodIn_of _ (by decide +kernel)) ggX18_ballot_J4_append_15ec4
set_option maxRecDepth 20000 in
theorem ggX18_ballot_J4_append_cf468 : GoodIn wsX18_ballot wsJ4_append_cf468 := goodIn_r _ [229, 230, 231, 133, 232, 111, 233, 136, 118, 142, 143, 144, 145, 146, 119, 147, 148, 149, 150, 151, 152, 153, 154, 155, 156, 157, 35, 36, 37, 158, 159, 160, 161, 162, 163, 164, 165, 166, 167, 168, 169, 170, 171, 117, 172, 39, 40, 173, 174, 175, 176, 177, 178, 179, 180, 181, 116, 234, 235, 32, 236, 200, 201, 202, 203, 204, 120, 121, 49, 122, 123, 124, 125, 126, 205, 206, 207, 208, 209, 210, 211, 212, 213, 60, 61, 62, 214, 215, 9, 216, 66, 217, 218, 69, 219, 185, 186, 187, 77, 78, 79, 237, 238, 239, 240, 241, 242, 243, 244, 245, 246, 247, 248, 350, 351, 352, 353] (by decide +kernel) (by decide +kernel)
