theorem dX15_tires_0 : decode cX15_tires 0 = .ok (.aload_n 0, 1) := by decide +kernel
theorem dX15_tires_1 : decode cX15_tires 1 = .ok (.bipush 99, 2) := by decide +kernel
theorem dX15_tires_3 : decode cX15_tires 3 = .ok (.aload_n 0, 1) := by decide +kernel
theorem dX15_tires_4 : decode cX15_tires 4 = .ok (.getfield 57, 3) := by decide +kernel
theorem dX15_tires_7 : decode cX15_tires 7 = .ok (.iload_n 1, 1) := by decide +kernel
theorem dX15_tires_8 : decode cX15_tires 8 = .ok (.iadd, 1) := by decide +kernel
theorem dX15_tires_9 : decode cX15_tires 9 = .ok (.invokestatic 60, 3) := by decide +kernel
theorem dX15_tires_12 : decode cX15_tires 12 = .ok (.putfield 57, 3) := by decide +kernel
theorem dX15_tires_15 : decode cX15_tires 15 = .ok (.return_, 1) := by decide +kernel
theorem dX14_pass_0 : decode cX14_pass 0 = .ok (.aload_n 0, 1) := by decide +kernel
theorem dX14_pass_1 : decode cX14_pass 1 = .ok (.dup, 1) := by decide +kernel
theorem dX14_pass_2 : decode cX14_pass 2 = .ok (.getfield 28, 3) := by decide +kernel
theorem dX14_pass_5 : decode cX14_pass 5 = .ok (.iconst 1, 1) := by decide +kernel
theorem dX14_pass_6 : decode cX14_pass 6 = .ok (.iadd, 1) := by decide +kernel
theorem dX14_pass_7 : decode cX14_pass 7 = .ok (.putfield 28, 3) := by decide +kernel
theorem dX14_pass_10 : decode cX14_pass 10 = .ok (.aload_n 0, 1) := by decide +kernel
theorem dX14_pass_11 : decode cX14_pass 11 = .ok (.getfield 17, 3) := by decide +kernel
theorem dX14_pass_14 : decode cX14_pass 14 = .ok (.astore_n 3, 1) := by decide +kernel
theorem dX14_pass_15 : decode cX14_pass 15 = .ok (.aload_n 3, 1) := by decide +kernel
theorem dX14_pass_16 : decode cX14_pass 16 = .ok (.arraylength, 1) := by decide +kernel
theorem dX14_pass_17 : decode cX14_pass 17 = .ok (.istore 4, 2) := by decide +kernel
theorem dX14_pass_19 : decode cX14_pass 19 = .ok (.iconst 0, 1) := by decide +kernel
theorem dX14_pass_20 : decode cX14_pass 20 = .ok (.istore 5, 2) := by decide +kernel
theorem dX14_pass_22 : decode cX14_pass 22 = .ok (.iload 5, 2) := by decide +kernel
theorem dX14_pass_24 : decode cX14_pass 24 = .ok (.iload 4, 2) := by decide +kernel
theorem dX14_pass_26 : decode cX14_pass 26 = .ok (.if_icmp .ge 359, 3) := by decide +kernel
theorem dX14_pass_385 : decode cX14_pass 385 = .ok (.return_, 1) := by decide +kernel
theorem dX14_pass_29 : decode cX14_pass 29 = .ok (.aload_n 3, 1) := by decide +kernel
theorem dX14_pass_30 : decode cX14_pass 30 = .ok (.iload 5, 2) := by decide +kernel
theorem dX14_pass_32 : decode cX14_pass 32 = .ok (.aaload, 1) := by decide +kernel
theorem dX14_pass_33 : decode cX14_pass 33 = .ok (.astore 6, 2) := by decide +kernel
theorem dX14_pass_35 : decode cX14_pass 35 = .ok (.aload 6, 2) := by decide +kernel
theorem dX14_pass_37 : decode cX14_pass 37 = .ok (.getfield 47, 3) := by decide +kernel
theorem dX14_pass_40 : decode cX14_pass 40 = .ok (.astore 7, 2) := by decide +kernel
theorem dX14_pass_42 : decode cX14_pass 42 = .ok (.aload 7, 2) := by decide +kernel
theorem dX14_pass_44 : decode cX14_pass 44 = .ok (.invokeinterface 115 1, 5) := by decide +kernel
theorem dX14_pass_49 : decode cX14_pass 49 = .ok (.iconst 1, 1) := by decide +kernel
theorem dX14_pass_50 : decode cX14_pass 50 = .ok (.isub, 1) := by decide +kernel
theorem dX14_pass_51 : decode cX14_pass 51 = .ok (.istore 8, 2) := by decide +kernel
theorem dX14_pass_53 : decode cX14_pass 53 = .ok (.iload 8, 2) := by decide +kernel
theorem dX14_pass_55 : decode cX14_pass 55 = .ok (.ifCond .lt 35, 3) := by decide +kernel
theorem dX14_pass_90 : decode cX14_pass 90 = .ok (.iload 8, 2) := by decide +kernel
theorem dX14_pass_92 : decode cX14_pass 92 = .ok (.ifCond .lt 62, 3) := by decide +kernel
theorem dX14_pass_154 : decode cX14_pass 154 = .ok (.aload 7, 2) := by decide +kernel
theorem dX14_pass_156 : decode cX14_pass 156 = .ok (.invokeinterface 141 1, 5) := by decide +kernel
theorem dX14_pass_161 : decode cX14_pass 161 = .ok (.ifCond .ne 15, 3) := by decide +kernel
theorem dX14_pass_176 : decode cX14_pass 176 = .ok (.iconst 0, 1) := by decide +kernel
theorem dX14_pass_177 : decode cX14_pass 177 = .ok (.goto 4, 3) := by decide +kernel
theorem dX14_pass_181 : decode cX14_pass 181 = .ok (.istore 9, 2) := by decide +kernel
theorem dX14_pass_183 : decode cX14_pass 183 = .ok (.iconst 0, 1) := by decide +kernel
theorem dX14_pass_184 : decode cX14_pass 184 = .ok (.istore 10, 2) := by decide +kernel
theorem dX14_pass_186 : decode cX14_pass 186 = .ok (.iload 10, 2) := by decide +kernel
theorem dX14_pass_188 : decode cX14_pass 188 = .ok (.iconst 1, 1) := by decide +kernel
theorem dX14_pass_189 : decode cX14_pass 189 = .ok (.iadd, 1) := by decide +kernel
theorem dX14_pass_190 : decode cX14_pass 190 = .ok (.aload 7, 2) := by decide +kernel
theorem dX14_pass_192 : decode cX14_pass 192 = .ok (.invokeinterface 115 1, 5) := by decide +kernel
theorem dX14_pass_197 : decode cX14_pass 197 = .ok (.if_icmp .ge 123, 3) := by decide +kernel
theorem dX14_pass_320 : decode cX14_pass 320 = .ok (.aload 6, 2) := by decide +kernel
theorem dX14_pass_322 : decode cX14_pass 322 = .ok (.iload 9, 2) := by decide +kernel
theorem dX14_pass_324 : decode cX14_pass 324 = .ok (.invokevirtual 154, 3) := by decide +kernel
theorem dX14_pass_327 : decode cX14_pass 327 = .ok (.aload 6, 2) := by decide +kernel
theorem dX14_pass_329 : decode cX14_pass 329 = .ok (.invokevirtual 157, 3) := by decide +kernel
theorem dX14_pass_332 : decode cX14_pass 332 = .ok (.astore 10, 2) := by decide +kernel
theorem dX14_pass_334 : decode cX14_pass 334 = .ok (.aload_n 0, 1) := by decide +kernel
theorem dX14_pass_335 : decode cX14_pass 335 = .ok (.getfield 28, 3) := by decide +kernel
theorem dX14_pass_338 : decode cX14_pass 338 = .ok (.bipush 10, 2) := by decide +kernel
theorem dX14_pass_340 : decode cX14_pass 340 = .ok (.irem, 1) := by decide +kernel
theorem dX14_pass_341 : decode cX14_pass 341 = .ok (.ifCond .ne 38, 3) := by decide +kernel
theorem dX14_pass_379 : decode cX14_pass 379 = .ok (.iinc 5 1, 3) := by decide +kernel
theorem dX14_pass_382 : decode cX14_pass 382 = .ok (.goto (-360), 3) := by decide +kernel
theorem dX14_pass_344 : decode cX14_pass 344 = .ok (.aload 10, 2) := by decide +kernel
theorem dX14_pass_346 : decode cX14_pass 346 = .ok (.ifnull 33, 3) := by decide +kernel
theorem dX14_does_0 : decode cX14_does 0 = .ok (.aload_n 1, 1) := by decide +kernel
theorem dX14_does_1 : decode cX14_does 1 = .ok (.getfield 161, 3) := by decide +kernel
theorem dX14_does_4 : decode cX14_does 4 = .ok (.astore_n 2, 1) := by decide +kernel
theorem dX14_does_5 : decode cX14_does 5 = .ok (.aload_n 1, 1) := by decide +kernel
theorem dX14_does_6 : decode cX14_does 6 = .ok (.getfield 167, 3) := by decide +kernel
theorem dX14_does_9 : decode cX14_does 9 = .ok (.tableswitch 293 102 121 #[187, 252, 293, 293, 293, 293, 95, 293, 293, 293, 293, 293, 218, 149, 293, 293, 293, 165, 293, 119], 95) := by decide +kernel
theorem dX14_does_128 : decode cX14_does 128 = .ok (.iconst 0, 1) := by decide +kernel
theorem dX14_does_129 : decode cX14_does 129 = .ok (.istore_n 3, 1) := by decide +kernel
theorem dX14_does_130 : decode cX14_does 130 = .ok (.iload_n 3, 1) := by decide +kernel
theorem dX14_does_131 : decode cX14_does 131 = .ok (.aload_n 2, 1) := by decide +kernel
theorem dX14_does_132 : decode cX14_does 132 = .ok (.iconst 0, 1) := by decide +kernel
theorem dX14_does_133 : decode cX14_does 133 = .ok (.iaload, 1) := by decide +kernel
theorem dX14_does_134 : decode cX14_does 134 = .ok (.if_icmp .ge 19, 3) := by decide +kernel
theorem dX14_does_153 : decode cX14_does 153 = .ok (.aload_n 0, 1) := by decide +kernel
theorem dX14_does_154 : decode cX14_does 154 = .ok (.getfield 28, 3) := by decide +kernel
theorem dX14_does_157 : decode cX14_does 157 = .ok (.ireturn, 1) := by decide +kernel
theorem dX14_does_137 : decode cX14_does 137 = .ok (.aload_n 0, 1) := by decide +kernel
theorem dX14_does_138 : decode cX14_does 138 = .ok (.aload_n 2, 1) := by decide +kernel
theorem dX14_does_139 : decode cX14_does 139 = .ok (.iconst 1, 1) := by decide +kernel
theorem dX14_does_140 : decode cX14_does 140 = .ok (.iaload, 1) := by decide +kernel
theorem dX14_does_141 : decode cX14_does 141 = .ok (.aload_n 2, 1) := by decide +kernel
theorem dX14_does_142 : decode cX14_does 142 = .ok (.iconst 2, 1) := by decide +kernel
theorem dX14_does_143 : decode cX14_does 143 = .ok (.iaload, 1) := by decide +kernel
theorem dX14_does_144 : decode cX14_does 144 = .ok (.invokevirtual 177, 3) := by decide +kernel
theorem dX14_does_147 : decode cX14_does 147 = .ok (.iinc 3 1, 3) := by decide +kernel
theorem dX14_does_150 : decode cX14_does 150 = .ok (.goto (-20), 3) := by decide +kernel
theorem dX14_scratches_0 : decode cX14_scratches 0 = .ok (.aload_n 1, 1) := by decide +kernel
theorem dX14_scratches_1 : decode cX14_scratches 1 = .ok (.invokevirtual 157, 3) := by decide +kernel
theorem dX14_scratches_4 : decode cX14_scratches 4 = .ok (.ifnonnull 5, 3) := by decide +kernel
theorem dX14_scratches_7 : decode cX14_scratches 7 = .ok (.iconst (-1), 1) := by decide +kernel
theorem dX14_scratches_8 : decode cX14_scratches 8 = .ok (.ireturn, 1) := by decide +kernel
theorem dX14_does_158 : decode cX14_does 158 = .ok (.aload_n 0, 1) := by decide +kernel
theorem dX14_does_159 : decode cX14_does 159 = .ok (.aload_n 0, 1) := by decide +kernel
theorem dX14_does_160 : decode cX14_does 160 = .ok (.getfield 17, 3) := by decide +kernel
theorem dX14_does_163 : decode cX14_does 163 = .ok (.aload_n 2, 1) := by decide +kernel
theorem dX14_does_164 : decode cX14_does 164 = .ok (.iconst 0, 1) := by decide +kernel
theorem dX14_does_165 : decode cX14_does 165 = .ok (.iaload, 1) := by decide +kernel
theorem dX14_does_166 : decode cX14_does 166 = .ok (.aaload, 1) := by decide +kernel
theorem dX14_does_167 : decode cX14_does 167 = .ok (.aload_n 2, 1) := by decide +kernel
theorem dX14_does_168 : decode cX14_does 168 = .ok (.iconst 1, 1) := by decide +kernel
theorem dX14_does_169 : decode cX14_does 169 = .ok (.iaload, 1) := by decide +kernel
theorem dX14_does_170 : decode cX14_does 170 = .ok (.invokevirtual 181, 3) := by decide +kernel
theorem dX14_does_173 : decode cX14_does 173 = .ok (.ireturn, 1) := by decide +kernel
theorem dX14_does_261 : decode cX14_does 261 = .ok (.aload_n 0, 1) := by decide +kernel
theorem dX14_does_262 : decode cX14_does 262 = .ok (.getfield 17, 3) := by decide +kernel
theorem dX14_does_265 : decode cX14_does 265 = .ok (.aload_n 2, 1) := by decide +kernel
theorem dX14_does_266 : decode cX14_does 266 = .ok (.iconst 0, 1) := by decide +kernel
theorem dX14_does_267 : decode cX14_does 267 = .ok (.iaload, 1) := by decide +kernel
theorem dX14_does_268 : decode cX14_does 268 = .ok (.aaload, 1) := by decide +kernel
theorem dX14_does_269 : decode cX14_does 269 = .ok (.iconst 0, 1) := by decide +kernel
theorem dX14_does_270 : decode cX14_does 270 = .ok (.aload_n 0, 1) := by decide +kernel
theorem dX14_does_271 : decode cX14_does 271 = .ok (.getfield 17, 3) := by decide +kernel
theorem dX14_does_274 : decode cX14_does 274 = .ok (.aload_n 2, 1) := by decide +kernel
theorem dX14_does_275 : decode cX14_does 275 = .ok (.iconst 0, 1) := by decide +kernel
theorem dX14_does_276 : decode cX14_does 276 = .ok (.iaload, 1) := by decide +kernel
theorem dX14_does_277 : decode cX14_does 277 = .ok (.aaload, 1) := by decide +kernel
theorem dX14_does_278 : decode cX14_does 278 = .ok (.getfield 44, 3) := by decide +kernel
theorem dX14_does_281 : decode cX14_does 281 = .ok (.bipush 30, 2) := by decide +kernel
theorem dX14_does_283 : decode cX14_does 283 = .ok (.isub, 1) := by decide +kernel
theorem dX14_does_284 : decode cX14_does 284 = .ok (.invokestatic 99, 3) := by decide +kernel
theorem dX14_does_287 : decode cX14_does 287 = .ok (.putfield 44, 3) := by decide +kernel
theorem dX14_does_290 : decode cX14_does 290 = .ok (.aload_n 0, 1) := by decide +kernel
theorem dX14_does_291 : decode cX14_does 291 = .ok (.getfield 17, 3) := by decide +kernel
theorem dX14_does_294 : decode cX14_does 294 = .ok (.aload_n 2, 1) := by decide +kernel
theorem dX14_does_295 : decode cX14_does 295 = .ok (.iconst 0, 1) := by decide +kernel
theorem dX14_does_296 : decode cX14_does 296 = .ok (.iaload, 1) := by decide +kernel
theorem dX14_does_297 : decode cX14_does 297 = .ok (.aaload, 1) := by decide +kernel
theorem dX14_does_298 : decode cX14_does 298 = .ok (.getfield 44, 3) := by decide +kernel
theorem dX14_does_301 : decode cX14_does 301 = .ok (.ireturn, 1) := by decide +kernel
theorem dX14_lends_0 : decode cX14_lends 0 = .ok (.iconst 0, 1) := by decide +kernel
theorem dX14_lends_1 : decode cX14_lends 1 = .ok (.istore_n 2, 1) := by decide +kernel
theorem dX14_lends_2 : decode cX14_lends 2 = .ok (.iconst 0, 1) := by decide +kernel
theorem dX14_lends_3 : decode cX14_lends 3 = .ok (.istore_n 3, 1) := by decide +kernel
theorem dX14_lends_4 : decode cX14_lends 4 = .ok (.iload_n 3, 1) := by decide +kernel
theorem dX14_lends_5 : decode cX14_lends 5 = .ok (.iconst 1, 1) := by decide +kernel
theorem dX14_lends_6 : decode cX14_lends 6 = .ok (.iadd, 1) := by decide +kernel
theorem dX14_lends_7 : decode cX14_lends 7 = .ok (.aload_n 1, 1) := by decide +kernel
theorem dX14_lends_8 : decode cX14_lends 8 = .ok (.arraylength, 1) := by decide +kernel
theorem dX14_lends_9 : decode cX14_lends 9 = .ok (.if_icmp .ge 59, 3) := by decide +kernel
theorem dX14_lends_68 : decode cX14_lends 68 = .ok (.iload_n 2, 1) := by decide +kernel
theorem dX14_lends_69 : decode cX14_lends 69 = .ok (.ireturn, 1) := by decide +kernel
theorem dX14_does_302 : decode cX14_does 302 = .ok (.aload_n 0, 1) := by decide +kernel
theorem dX14_does_303 : decode cX14_does 303 = .ok (.aload_n 2, 1) := by decide +kernel
theorem dX14_does_304 : decode cX14_does 304 = .ok (.invokevirtual 196, 3) := by decide +kernel
theorem dX14_does_307 : decode cX14_does 307 = .ok (.ireturn, 1) := by decide +kernel
theorem dX18_keeps_0 : decode cX18_keeps 0 = .ok (.aload_n 0, 1) := by decide +kernel
theorem dX18_keeps_1 : decode cX18_keeps 1 = .ok (.getfield 25, 3) := by decide +kernel
theorem dX18_keeps_4 : decode cX18_keeps 4 = .ok (.invokevirtual 111, 3) := by decide +kernel
theorem dX18_keeps_7 : decode cX18_keeps 7 = .ok (.astore_n 3, 1) := by decide +kernel
theorem dX18_keeps_8 : decode cX18_keeps 8 = .ok (.aload_n 3, 1) := by decide +kernel
theorem dX18_keeps_9 : decode cX18_keeps 9 = .ok (.aload_n 1, 1) := by decide +kernel
theorem dX18_keeps_10 : decode cX18_keeps 10 = .ok (.invokevirtual 115, 3) := by decide +kernel
theorem dX18_keeps_13 : decode cX18_keeps 13 = .ok (.istore 4, 2) := by decide +kernel
theorem dX18_keeps_15 : decode cX18_keeps 15 = .ok (.iload 4, 2) := by decide +kernel
theorem dX18_keeps_17 : decode cX18_keeps 17 = .ok (.iconst (-1), 1) := by decide +kernel
theorem dX18_keeps_18 : decode cX18_keeps 18 = .ok (.if_icmp .ne 13, 3) := by decide +kernel
theorem dX18_keeps_31 : decode cX18_keeps 31 = .ok (.aload_n 0, 1) := by decide +kernel
theorem dX18_keeps_32 : decode cX18_keeps 32 = .ok (.getfield 29, 3) := by decide +kernel
theorem dX18_keeps_35 : decode cX18_keeps 35 = .ok (.invokeinterface 74 1, 5) := by decide +kernel
theorem dX18_keeps_40 : decode cX18_keeps 40 = .ok (.bipush 40, 2) := by decide +kernel
theorem dX18_keeps_42 : decode cX18_keeps 42 = .ok (.if_icmp .ne 14, 3) := by decide +kernel
theorem dX18_keeps_56 : decode cX18_keeps 56 = .ok (.aload_n 0, 1) := by decide +kernel
theorem dX18_keeps_57 : decode cX18_keeps 57 = .ok (.aload_n 3, 1) := by decide +kernel
theorem dX18_keeps_58 : decode cX18_keeps 58 = .ok (.putfield 25, 3) := by decide +kernel
theorem dX18_keeps_61 : decode cX18_keeps 61 = .ok (.aload_n 0, 1) := by decide +kernel
theorem dX18_keeps_62 : decode cX18_keeps 62 = .ok (.getfield 29, 3) := by decide +kernel
theorem dX18_keeps_65 : decode cX18_keeps 65 = .ok (.aload_n 1, 1) := by decide +kernel
theorem dX18_keeps_66 : decode cX18_keeps 66 = .ok (.invokeinterface 96 2, 5) := by decide +kernel
theorem dX18_keeps_71 : decode cX18_keeps 71 = .ok (.pop, 1) := by decide +kernel
theorem dX18_keeps_72 : decode cX18_keeps 72 = .ok (.iload 4, 2) := by decide +kernel
theorem dX18_keeps_74 : decode cX18_keeps 74 = .ok (.ireturn, 1) := by decide +kernel
theorem dX18_keeps_21 : decode cX18_keeps 21 = .ok (.iload_n 2, 1) := by decide +kernel
theorem dX18_keeps_22 : decode cX18_keeps 22 = .ok (.ifCond .le 9, 3) := by decide +kernel
theorem dX18_keeps_25 : decode cX18_keeps 25 = .ok (.aload_n 0, 1) := by decide +kernel
theorem dX18_keeps_26 : decode cX18_keeps 26 = .ok (.iload_n 2, 1) := by decide +kernel
theorem dX18_keeps_27 : decode cX18_keeps 27 = .ok (.invokevirtual 88, 3) := by decide +kernel
theorem dX18_keeps_30 : decode cX18_keeps 30 = .ok (.ireturn, 1) := by decide +kernel
theorem gw_c {c : Cond} {l : List Cond} (h : goodWord c = true) (t : l.all goodWord = true) : (c :: l).all goodWord = true := by rw [List.all_cons, h, t]; rfl
theorem gw_a {a b : List Cond} (h : a.all goodWord = true) (t : b.all goodWord = true) : (a ++ b).all goodWord = true := by rw [List.all_append, h, t]; rfl
theorem y_ne : ∀ N : Nat, N ≤ 50 → (1600 : Int32) + nI N ≠ -1 := fun N h => (by decide : ∀ k : Fin 51, (1600 : Int32) + nI k.val ≠ -1) ⟨N, by omega⟩

def wo_c_X15_tires0_w : List Cond := [Cond.fieldLink RX15 57 "UnderpaintModel$Place" "tired" "I", Cond.methodLink RX15 60 Lib.Math.min.name, Cond.static Lib.Math.min.name, Cond.initialized "java/lang/Math", Cond.code Lib.Math.min.name Lib.Math.min.code 2 (some .int)]
def wo_c_X15_tires0 : List Cond := .code yX15_tires cX15_tires 2 none :: (wo_c_X15_tires0_w ++ (u_ws RX15 TX15 3 ++ List.nil))
theorem gw_wo_c_X15_tires0 : wo_c_X15_tires0.all goodWord = true := gw_c (by decide +kernel) (gw_a (by decide +kernel) (gw_a (by decide +kernel) rfl))
set_option maxHeartbeats 4000000 in
set_option maxRecDepth 100000 in
/-- Place.tires(0) of a place that is not tired: the heap is as it was -/
theorem c_X15_tires0 (l : Launch) (dC : Nat → ClassId) (dI : Nat → Nat → Nat) (b0 : Nat) (en : EnT) (sz : Nat) (pa pl : Nat) (num : Int32) (H0 : Heap) : Met l yX15_tires wo_c_X15_tires0 ({ frames := 1, cells := 0, slots := 0, locals := 40 } : Room) (cP b0 en (dC, dI) [] [(pa, .inr (21, [.int num, .ref pl, .int 0]))] [] sz (fun U => U = H0) [.ref pa, .int 0]) (va_Qv (fun u : Unit => True) (fun u t => cB (dC, dI) [] [(pa, .inr (21, [.int num, .ref pl, .int 0]))] (va_A [(pa, .inr (21, [.int num, .ref pl, .int 0]))] sz) (fun U => hq_ H0 U) t) (va_A [(pa, .inr (21, [.int num, .ref pl, .int 0]))] sz)) 0 0 (va_A [(pa, .inr (21, [.int num, .ref pl, .int 0]))] sz) := by
  refine Met.ofW (cc := cX15_tires) (maxL := 2) (ret := none) (by decide) rfl ?_
  intro p e s m args below meth c s₁ B hml hv
  obtain ⟨rfl, hsz, hb0, hE, hPP, hK, hDD, hF0⟩ := hv
  have hx := B.exec
  have hb := B.bytes
  have hr := B.returns
  have hts := atoms_spec (ws := wo_c_X15_tires0) B.pre
  have hown : s.vm.findClass RX15 = some m.cls := findClass_of_methodNamed B.named
  have hlocks := B.notSynchronized
  subst hsz
  have hN0 := en_N hPP hDD rfl
  have hP : va_P (dC, dI) vwCl [(pa, .inr (21, [.int num, .ref pl, .int 0]))] s.heap := hPP.sub [0] rfl
  have hR0 : va_P (dC, dI) vwCl [] s.heap := hPP.sub [] rfl
  have hD0 : va_D (fun q => b0 ≤ q) [(pa, .inr (21, [.int num, .ref pl, .int 0]))] := hDD.sub [0] (by decide) rfl
  have hDr : va_D (fun q => b0 ≤ q) [] := hDD.sub [] (by decide) rfl
  have hAb := en_A (sz := s.heap.size) hD0 hb0
  have hD := hD0.self (sz := s.heap.size)
  generalize hAe : va_A [(pa, .inr (21, [.int num, .ref pl, .int 0]))] s.heap.size = A at hD hAb hN0 ⊢
  have hA : ∀ q : Nat, s.heap.size ≤ q → A q := fun q h => by rw [← hAe]; exact Or.inr h
  have hS : va_S A s.heap s.heap [] := va_S.rf
  have hR := hR0
  have hl := lv_entry [.ref pa, .int 0] (n := 2) (Nat.le_of_ble_eq_true rfl)
  rw [lg_entry_eq]
  generalize (lg_sl [.ref pa, .int 0] ++ List.replicate (2 - (lg_sl [.ref pa, .int 0]).length) Slot.unset).toArray = ls at hl ⊢
  have hl : lv_has ls 2 [(0, .ref pa), (1, .int 0)] := hl
  have hQ0 : s.heap = H0 := hF0
  have hR0b := hR0
  have hDrb := hDr
  have hN0b := hN0
  refine lv_aload_n hx hb dX15_tires_0 rfl (lv_at hl 0 rfl) ?_
  refine lv_bipush (v := 99) hx hb dX15_tires_1 (by decide) ?_
  refine lv_aload_n hx hb dX15_tires_3 rfl (lv_at hl 0 rfl) ?_
  refine va_get (D := (dC, dI)) (ci := 21) (v := .int 0) (C := RX15) (T := TX15) (N := 3) hx hb hts (by decide +kernel) hown hK hP 0 rfl rfl 2 (by decide) (hts (.fieldLink RX15 57 "UnderpaintModel$Place" "tired" "I") (by decide +kernel)) (fun _ h9 => h9) rfl dX15_tires_4 ?_
  refine lv_iload_n hx hb dX15_tires_7 rfl (lv_at hl 1 rfl) ?_
  refine lv_iadd hx hb dX15_tires_8 ?_
  refine lv_topi (fun x_1 ex_1 => ?_)
  obtain rfl : x_1 = 0 := ex_1.trans (by decide)
  refine va_mmin hx hb (hml.trans hl.1.symm) hown (hts (.methodLink RX15 60 Lib.Math.min.name) (by decide +kernel)) (hts (.static Lib.Math.min.name) (by decide +kernel)) (hts (.initialized "java/lang/Math") (by decide +kernel)) (hts (.code Lib.Math.min.name Lib.Math.min.code 2 (some .int)) (by decide +kernel)) (Nat.le_of_ble_eq_true rfl) (Nat.le_of_ble_eq_true rfl) (Nat.le_of_ble_eq_true rfl) (Nat.le_of_ble_eq_true rfl) dX15_tires_9 ?_
  refine lv_topi (fun x_2 ex_2 => ?_)
  obtain rfl : x_2 = 0 := ex_2.trans (by decide)
  refine va_putS (D := (dC, dI)) (ci := 21) (v := .int 0) (ty := .int) (C := RX15) (T := TX15) (N := 3) hx hb hts (by decide +kernel) hown hK (hP 0 _ rfl) (hD.2 0 _ rfl) hS rfl 2 (by decide) (hts (.fieldLink RX15 57 "UnderpaintModel$Place" "tired" "I") (by decide +kernel)) (fun _ h9 => h9) rfl rfl (by decide +kernel) (by first | rfl | decide +kernel) (by first | rfl | decide +kernel) dX15_tires_12 (fun locs hS => ?_)
  refine W.widen (k := 0) (n := 0) (Nat.le_of_ble_eq_true rfl) (Nat.le_of_ble_eq_true rfl) ?_
  exact W.vret hx hb hr (fun t ht hW => ⟨⟨(), rfl, trivial, cB.mk ht hW (hP.sub [0] rfl) (hK.sub [] rfl) (hD.sub [0] (by decide) rfl) (by rw [← hQ0]; exact hq_.rf)⟩, hS.F ht⟩) hS.2.2 dX15_tires_15
theorem z_c_X14_pass_156 (yr : Int32) (x_1 : Int32) (a_0 : x_1 = yr + 1) : x_1 = yr + 1 := by first | rfl | grind
set_option maxRecDepth 100000 in
theorem gw_wsX15_top : wsX15_top.all goodWord = true := by decide +kernel
set_option maxRecDepth 100000 in
theorem gw_wsJx4a65c_isEmpty_aae02 : wsJx4a65c_isEmpty_aae02.all goodWord = true := by decide +kernel
set_option maxRecDepth 100000 in
theorem gw_wsJx4a65c_size_8abf5 : wsJx4a65c_size_8abf5.all goodWord = true := by decide +kernel
def wo_c_X14_pass_w : List Cond := [Cond.fieldLink RX14 28 "UnderpaintModel$Picture" "year" "I", Cond.fieldLink RX14 17 "UnderpaintModel$Picture" "at" "[LUnderpaintModel$Place;"]
def wo_c_X14_pass : List Cond := .code yX14_pass cX14_pass 13 none :: (wo_c_X14_pass_w ++ (u_ws RX14 TX14 6 ++ (u_ws RX15 TX15 3 ++ (va_wsF RX14 115 RJx4a65c ⟨"java/util/List", "size", "()I"⟩ yJx4a65c_size_8abf5 wsJx4a65c_size_8abf5 ++ (va_wsF RX14 141 RJx4a65c ⟨"java/util/List", "isEmpty", "()Z"⟩ yJx4a65c_isEmpty_aae02 wsJx4a65c_isEmpty_aae02 ++ (wsV RX14 154 RX15 yX15_tires wo_c_X15_tires0 ++ (wsV RX14 157 RX15 yX15_top wsX15_top ++ List.nil)))))))
theorem gw_wo_c_X14_pass : wo_c_X14_pass.all goodWord = true := gw_c (by decide +kernel) (gw_a (by decide +kernel) (gw_a (by decide +kernel) (gw_a (by decide +kernel) (gw_a (gw_a (by decide +kernel) gw_wsJx4a65c_size_8abf5) (gw_a (gw_a (by decide +kernel) gw_wsJx4a65c_isEmpty_aae02) (gw_a (gw_a (by decide +kernel) gw_wo_c_X15_tires0) (gw_a (gw_a (by decide +kernel) gw_wsX15_top) rfl)))))))
theorem go_c_X14_pass_0 : GoodIn wo_c_X14_pass (va_wsF RX14 115 RJx4a65c ⟨"java/util/List", "size", "()I"⟩ yJx4a65c_size_8abf5 wsJx4a65c_size_8abf5) := goodIn_sub (fun _ h => List.mem_cons_of_mem _ (List.mem_append_right _ (List.mem_append_right _ (List.mem_append_right _ (List.mem_append_left _ h))))) (gw_a (by decide +kernel) gw_wsJx4a65c_size_8abf5)
theorem go_c_X14_pass_1 : GoodIn wo_c_X14_pass (va_wsF RX14 141 RJx4a65c ⟨"java/util/List", "isEmpty", "()Z"⟩ yJx4a65c_isEmpty_aae02 wsJx4a65c_isEmpty_aae02) := goodIn_sub (fun _ h => List.mem_cons_of_mem _ (List.mem_append_right _ (List.mem_append_right _ (List.mem_append_right _ (List.mem_append_right _ (List.mem_append_left _ h)))))) (gw_a (by decide +kernel) gw_wsJx4a65c_isEmpty_aae02)
theorem go_c_X14_pass_2 : GoodIn wo_c_X14_pass (wsV RX14 154 RX15 yX15_tires wo_c_X15_tires0) := goodIn_sub (fun _ h => List.mem_cons_of_mem _ (List.mem_append_right _ (List.mem_append_right _ (List.mem_append_right _ (List.mem_append_right _ (List.mem_append_right _ (List.mem_append_left _ h))))))) (gw_a (by decide +kernel) gw_wo_c_X15_tires0)
theorem go_c_X14_pass_3 : GoodIn wo_c_X14_pass (wsV RX14 157 RX15 yX15_top wsX15_top) := goodIn_sub (fun _ h => List.mem_cons_of_mem _ (List.mem_append_right _ (List.mem_append_right _ (List.mem_append_right _ (List.mem_append_right _ (List.mem_append_right _ (List.mem_append_right _ (List.mem_append_left _ h)))))))) (gw_a (by decide +kernel) gw_wsX15_top)
set_option maxHeartbeats 4000000 in
set_option maxRecDepth 100000 in
/-- Picture.pass of a picture without layers -/
theorem c_X14_pass (l : Launch) (dC : Nat → ClassId) (dI : Nat → Nat → Nat) (b0 : Nat) (en : EnT) (sz : Nat) (q ap sc mm c0 : Nat) (kQ : ClassId) (g : Nat → Option Nat) (yr li da : Int32) (hbc : b0 ≤ c0) (hcs : c0 ≤ sz) (hWc : ∀ (k9 : Nat) (q9 : Nat × va_E), ([(q, .inr (20, [.ref ap, .ref sc, .int yr, .int 0, .int 0, .ref mm])), (ap, .inl (kQ, 48, .inr (.inr (.inr (.inr g))))), (sc, .inr (5, [.int 1, .ref en.2.2.1, .int 0]))] : va_W)[k9]? = some q9 → c0 ≤ q9.1) (hRc : ∀ (k9 : Nat) (q9 : Nat × va_E), ([] : va_W)[k9]? = some q9 → q9.1 < c0) : Met l yX14_pass wo_c_X14_pass ({ frames := 2, cells := 0, slots := 0, locals := 61 } : Room) (cP b0 en (dC, dI) [(kQ, .object "UnderpaintModel$Place")] [(q, .inr (20, [.ref ap, .ref sc, .int yr, .int 0, .int 0, .ref mm])), (ap, .inl (kQ, 48, .inr (.inr (.inr (.inr g))))), (sc, .inr (5, [.int 1, .ref en.2.2.1, .int 0]))] [] sz (fun U => FamP (dC, dI) (vN c0 [q, ap, sc]) en.2.2.1 g U) [.ref q, .int li, .int da]) (va_Qv (fun u : Int32 => u = yr + 1) (fun u t => cB (dC, dI) [(kQ, .object "UnderpaintModel$Place")] [(q, .inr (20, [.ref ap, .ref sc, .int u, .int 0, .int 0, .ref mm])), (ap, .inl (kQ, 48, .inr (.inr (.inr (.inr g))))), (sc, .inr (5, [.int 1, .ref en.2.2.1, .int 0]))] (vC c0) (fun U => FamP (dC, dI) (vN c0 [q, ap, sc]) en.2.2.1 g U) t) (vC c0)) 0 0 (vC c0) := by
  refine Met.ofW (cc := cX14_pass) (maxL := 13) (ret := none) (by decide) rfl ?_
  intro p e s m args below meth c s₁ B hml hv
  obtain ⟨rfl, hsz, hb0, hE, hPP, hK, hDD, hF0⟩ := hv
  have hx := B.exec
  have hb := B.bytes
  have hr := B.returns
  have hts := atoms_spec (ws := wo_c_X14_pass) B.pre
  have hown : s.vm.findClass RX14 = some m.cls := findClass_of_methodNamed B.named
  have hlocks := B.notSynchronized
  subst hsz
  have hN0 : ∀ (k9 : Nat) (q9 : Nat × va_E), ([] : va_W)[k9]? = some q9 → ¬ vC c0 q9.1 := fun k q h => Nat.not_le.mpr (hRc k q h)
  have hP : va_P (dC, dI) vwCl [(q, .inr (20, [.ref ap, .ref sc, .int yr, .int 0, .int 0, .ref mm])), (ap, .inl (kQ, 48, .inr (.inr (.inr (.inr g))))), (sc, .inr (5, [.int 1, .ref en.2.2.1, .int 0]))] s.heap := hPP.sub [0, 1, 2] rfl
  have hR0 : va_P (dC, dI) vwCl [] s.heap := hPP.sub [] rfl
  have hD0 : va_D (fun q => b0 ≤ q) [(q, .inr (20, [.ref ap, .ref sc, .int yr, .int 0, .int 0, .ref mm])), (ap, .inl (kQ, 48, .inr (.inr (.inr (.inr g))))), (sc, .inr (5, [.int 1, .ref en.2.2.1, .int 0]))] := hDD.sub [0, 1, 2] (by decide) rfl
  have hDr : va_D (fun q => b0 ≤ q) [] := hDD.sub [] (by decide) rfl
  have hAb : ∀ q, vC c0 q → b0 ≤ q := fun q h => Nat.le_trans hbc h
  have hD : va_D (vC c0) [(q, .inr (20, [.ref ap, .ref sc, .int yr, .int 0, .int 0, .ref mm])), (ap, .inl (kQ, 48, .inr (.inr (.inr (.inr g))))), (sc, .inr (5, [.int 1, .ref en.2.2.1, .int 0]))] := ⟨hD0.1, hWc⟩
  have hAc : ∀ q : Nat, c0 ≤ q → vC c0 q := fun q h => h
  have hA0 : ∀ q : Nat, s.heap.size ≤ q → vC c0 q := fun q h => Nat.le_trans hcs h
  generalize hAe : vC c0 = A at hD hAb hN0 hAc hA0 ⊢
  have hA : ∀ q : Nat, s.heap.size ≤ q → A q := hA0
  have hS : va_S A s.heap s.heap [] := va_S.rf
  have hR := hR0
  have hl := lv_entry [.ref q, .int li, .int da] (n := 13) (Nat.le_of_ble_eq_true rfl)
  rw [lg_entry_eq]
  generalize (lg_sl [.ref q, .int li, .int da] ++ List.replicate (13 - (lg_sl [.ref q, .int li, .int da]).length) Slot.unset).toArray = ls at hl ⊢
  have hl : lv_has ls 13 [(0, .ref q), (1, .int li), (2, .int da)] := hl
  have hge_q : c0 ≤ q := (hWc 0 _ rfl)
  have hge_ap : c0 ≤ ap := (hWc 1 _ rfl)
  have hge_sc : c0 ≤ sc := (hWc 2 _ rfl)
  have hG := hF0
  refine W.gen (fun Q hQ => ?_)
  have hR0b := hR0
  have hDrb := hDr
  have hN0b := hN0
  refine lv_aload_n hx hb dX14_pass_0 rfl (lv_at hl 0 rfl) ?_
  refine lv_dup hx hb dX14_pass_1 rfl ?_
  refine va_get (D := (dC, dI)) (ci := 20) (v := .int yr) (C := RX14) (T := TX14) (N := 6) hx hb hts (by decide +kernel) hown hK hP 0 rfl rfl 2 (by decide) (hts (.fieldLink RX14 28 "UnderpaintModel$Picture" "year" "I") (by decide +kernel)) (fun _ h9 => h9) rfl dX14_pass_2 ?_
  refine lv_iconst (v := 1) hx hb dX14_pass_5 (by decide) ?_
  refine lv_iadd hx hb dX14_pass_6 ?_
  refine lv_topi (fun x_1 ex_1 => ?_)
  refine va_putX (D := (dC, dI)) (ci := 20) (v := .int x_1) (ty := .int) (C := RX14) (T := TX14) (N := 6) hx hb hts (by decide +kernel) tyX14 tyX14_ok nmX14 hown hK hP hD hS 0 rfl rfl 2 (by decide) (hts (.fieldLink RX14 28 "UnderpaintModel$Picture" "year" "I") (by decide +kernel)) (fun _ h9 => h9) rfl (by decide +kernel) rfl rfl (Nat.le_of_ble_eq_true rfl) dX14_pass_7 (fun H locs hP hD hS hoq => ?_)
  have hG := hG.via (fun q9 h9 n9 => hoq q9 (fun e9 => n9.2 (by rw [e9]; simp only [List.mem_cons, List.not_mem_nil, or_false, true_or, or_true])))
  have hP : va_P (dC, dI) vwCl [(q, .inr (20, [.ref ap, .ref sc, .int x_1, .int 0, .int 0, .ref mm])), (ap, .inl (kQ, 48, .inr (.inr (.inr (.inr g))))), (sc, .inr (5, [.int 1, .ref en.2.2.1, .int 0]))] H := hP
  have hD : va_D A [(q, .inr (20, [.ref ap, .ref sc, .int x_1, .int 0, .int 0, .ref mm])), (ap, .inl (kQ, 48, .inr (.inr (.inr (.inr g))))), (sc, .inr (5, [.int 1, .ref en.2.2.1, .int 0]))] := hD
  have hR : va_P (dC, dI) vwCl [] H := fun k q h => by simp at h
  refine lv_aload_n hx hb dX14_pass_10 rfl (lv_at hl 0 rfl) ?_
  refine va_get (D := (dC, dI)) (ci := 20) (v := .ref ap) (C := RX14) (T := TX14) (N := 6) hx hb hts (by decide +kernel) hown hK hP 0 rfl rfl 0 (by decide) (hts (.fieldLink RX14 17 "UnderpaintModel$Picture" "at" "[LUnderpaintModel$Place;") (by decide +kernel)) (fun _ h9 => h9) rfl dX14_pass_11 ?_
  refine lv_astore_n (lv' := [(3, .ref ap), (0, .ref q), (1, .int li), (2, .int da)]) hx hb dX14_pass_14 rfl hl (by decide) rfl (fun ls hl => ?_)
  refine lv_aload_n hx hb dX14_pass_15 rfl (lv_at hl 0 rfl) ?_
  refine va_alen hx hb hK hP 1 0 rfl rfl (v := 48) rfl dX14_pass_16 ?_
  refine lv_istore (lv' := [(4, .int 48), (3, .ref ap), (0, .ref q), (1, .int li), (2, .int da)]) hx hb dX14_pass_17 hl (by decide) rfl (fun ls hl => ?_)
  refine lv_iconst (v := 0) hx hb dX14_pass_19 (by decide) ?_
  refine lv_istore (lv' := [(5, .int 0), (4, .int 48), (3, .ref ap), (0, .ref q), (1, .int li), (2, .int da)]) hx hb dX14_pass_20 hl (by decide) rfl (fun ls hl => ?_)
  have loop_22 : ∀ (n_3 k_2 : Nat), n_3 + k_2 = 48 → ∀ (H : Heap) (locs : List Loc), va_P (dC, dI) vwCl [(q, .inr (20, [.ref ap, .ref sc, .int x_1, .int 0, .int 0, .ref mm])), (ap, .inl (kQ, 48, .inr (.inr (.inr (.inr g))))), (sc, .inr (5, [.int 1, .ref en.2.2.1, .int 0]))] H → va_D A [(q, .inr (20, [.ref ap, .ref sc, .int x_1, .int 0, .int 0, .ref mm])), (ap, .inl (kQ, 48, .inr (.inr (.inr (.inr g))))), (sc, .inr (5, [.int 1, .ref en.2.2.1, .int 0]))] → va_S A s.heap H locs → FamP (dC, dI) (vN c0 [q, ap, sc]) en.2.2.1 g H → ∀ ls : Array Slot, lv_has ls 13 [(5, .int (nI k_2)), (4, .int 48), (3, .ref ap), (0, .ref q), (1, .int li), (2, .int da)] → W p l e (headSpec wo_c_X14_pass ({ frames := 2, cells := 0, slots := 0, locals := 61 } : Room)).room s m #[.ref q, .int li, .int da] below meth c H locs 0 0 Q (F0 m 22 ls []) := by
    intro n_3
    induction n_3 with
    | zero =>
      intro k_2 hk_4 H locs hP hD hS hG ls hl
      have ek_2 : k_2 = 48 := by omega
      subst ek_2
      have hl : lv_has ls 13 [(5, .int 48), (4, .int 48), (3, .ref ap), (0, .ref q), (1, .int li), (2, .int da)] := hl
      have hR : va_P (dC, dI) vwCl [] H := fun k q h => by simp at h
      refine lv_iload hx hb dX14_pass_22 (lv_at hl 0 rfl) ?_
      refine lv_iload hx hb dX14_pass_24 (lv_at hl 1 rfl) ?_
      refine lv_icmp_ge (tgt := 385) hx hb dX14_pass_26 (by decide) (fun c_6 => ?_) (fun c_6 => absurd c_6 (by decide))
      subst hQ
      refine W.widen (k := 0) (n := 0) (Nat.le_of_ble_eq_true rfl) (Nat.le_of_ble_eq_true rfl) ?_
      exact W.vret hx hb hr (fun t ht hW => ⟨⟨x_1, rfl, (z_c_X14_pass_156 yr x_1 ex_1), cB.mk ht hW (hP.sub [0, 1, 2] rfl) (hK.sub [0] rfl) (hD.sub [0, 1, 2] (by decide) rfl) (hG)⟩, hS.F ht⟩) hS.2.2 dX14_pass_385
    | succ n_3 ih =>
      intro k_2 hk_4 H locs hP hD hS hG ls hl
      have hk_7 : k_2 < 48 := by omega
      have hb_8 : 0 ≤ nI k_2 ∧ nI k_2 < 48 := ⟨nI_le (Nat.zero_le _) (by omega), nI_lk hk_7 (by decide)⟩
      have hR : va_P (dC, dI) vwCl [] H := fun k q h => by simp at h
      refine lv_iload hx hb dX14_pass_22 (lv_at hl 0 rfl) ?_
      refine lv_iload hx hb dX14_pass_24 (lv_at hl 1 rfl) ?_
      refine lv_icmp_ge (tgt := 385) hx hb dX14_pass_26 (by decide) (fun c_9 => ?_) (fun c_9 => ?_)
      · skip
        first | exact absurd c_9 (nI_ge hk_7 (by decide)) | exact absurd (nI_lk hk_7 (by decide)) c_9
      · skip
        refine lv_aload_n hx hb dX14_pass_29 rfl (lv_at hl 2 rfl) ?_
        refine lv_iload hx hb dX14_pass_30 (lv_at hl 0 rfl) ?_
        refine va_aldq hx hb hK hP 1 0 rfl rfl (vp_in_nI hk_7 (by decide)) dX14_pass_32 ?_
        obtain ⟨ap_10, lp_10, hg_ap_10, hup_10, hvp_10, hnp_10, hmp_10, hdp_10⟩ := hG k_2 hk_7
        refine lv_topv (w := .ref ap_10) (by rw [nI_clamp (by omega), hg_ap_10]; rfl) ?_
        have hc0_ap_10 : c0 ≤ ap_10 := hnp_10.1
        have hP := hP.app (va1 hup_10)
        have hD := vD_push (e := .inr (21, [.int (nI k_2), .ref lp_10, .int 0])) hD (hAc ap_10 hnp_10.1) (nR (fun z9 => by have g1 := hnp_10.2; simp only [List.map_cons, List.map_nil, List.cons_append, List.nil_append, List.mem_cons, List.not_mem_nil, or_false, not_or] at g1 z9; omega))
        have hc0_lp_10 : c0 ≤ lp_10 := hmp_10.1
        have hP := hP.app (va1 hvp_10)
        have hD := vD_push (e := .inr (5, [.int 0, .ref en.2.2.1, .int 0])) hD (hAc lp_10 hmp_10.1) (nR (fun z9 => by have g1 := hmp_10.2; have g7 := hdp_10; simp only [List.map_cons, List.map_nil, List.cons_append, List.nil_append, List.mem_cons, List.not_mem_nil, or_false, not_or] at g1 z9; omega))
        have hP : va_P (dC, dI) vwCl [(q, .inr (20, [.ref ap, .ref sc, .int x_1, .int 0, .int 0, .ref mm])), (ap, .inl (kQ, 48, .inr (.inr (.inr (.inr g))))), (sc, .inr (5, [.int 1, .ref en.2.2.1, .int 0])), (ap_10, .inr (21, [.int (nI k_2), .ref lp_10, .int 0])), (lp_10, .inr (5, [.int 0, .ref en.2.2.1, .int 0]))] H := hP
        have hD : va_D A [(q, .inr (20, [.ref ap, .ref sc, .int x_1, .int 0, .int 0, .ref mm])), (ap, .inl (kQ, 48, .inr (.inr (.inr (.inr g))))), (sc, .inr (5, [.int 1, .ref en.2.2.1, .int 0])), (ap_10, .inr (21, [.int (nI k_2), .ref lp_10, .int 0])), (lp_10, .inr (5, [.int 0, .ref en.2.2.1, .int 0]))] := hD
        refine lv_astore (lv' := [(6, .ref ap_10), (5, .int (nI k_2)), (4, .int 48), (3, .ref ap), (0, .ref q), (1, .int li), (2, .int da)]) hx hb dX14_pass_33 hl (by decide) rfl (fun ls hl => ?_)
        refine lv_aload hx hb dX14_pass_35 (lv_at hl 0 rfl) ?_
        refine va_getN (D := (dC, dI)) (ci := 21) (v := .ref lp_10) (C := RX15) (T := TX15) (N := 3) hx hb hts (by decide +kernel) hown hK hP 3 rfl rfl 1 (by decide) (va_Nw.use rfl (hE.nf ("UnderpaintModel$Picture", 47, "UnderpaintModel$Place", "layers", "Ljava/util/List;", "UnderpaintModel") (by decide +kernel))) (fun _ h9 => h9) rfl dX14_pass_37 ?_
        refine lv_astore (lv' := [(7, .ref lp_10), (6, .ref ap_10), (5, .int (nI k_2)), (4, .int 48), (3, .ref ap), (0, .ref q), (1, .int li), (2, .int da)]) hx hb dX14_pass_40 hl (by decide) rfl (fun ls hl => ?_)
        refine lv_aload hx hb dX14_pass_42 (lv_at hl 0 rfl) ?_
        have hPc := (hP.app hR).sub (ws' := [] ++ [(lp_10, .inr (5, [.int 0, .ref en.2.2.1, .int 0]))]) [4] rfl
        have hDc := (en_DD hD hDr hN0 hAb).sub (ws' := [] ++ [(lp_10, .inr (5, [.int 0, .ref en.2.2.1, .int 0]))]) [4] (by decide) rfl
        have hKc := hK.sub (tys' := []) [] rfl
        have hFc := va_free (wc := []) hD hS hA [] rfl
        refine va_callFi (va_runF (As := []) (rest := []) (hK.1 5 _ rfl).2 ⟨hx, hb, hml, hown, hts⟩ (c_Jx4a65c_size l dC dI b0 en H.size lp_10 en.2.2.1 0 0) (va_cwF 0 hts go_c_X14_pass_0 rfl rfl rfl (hE.face ("java/util/ArrayList", ⟨"java/util/List", "size", "()I"⟩, ⟨"java/util/ArrayList", "size", "()I"⟩) (by decide +kernel)) (by decide +kernel) ⟨Nat.le_of_ble_eq_true rfl, Nat.le_of_ble_eq_true rfl⟩) ⟨cP.blind, va_recv hK hP (ci := 5) (q0 := 4) rfl rfl, cP.use (en_z hb0 hS) (hE.on hAb hS) hPc hKc hDc trivial⟩ rfl rfl hl.1 rfl (lv_room (Nat.le_of_ble_eq_true rfl)) dX14_pass_44 ⟨Nat.le_of_ble_eq_true rfl, Nat.le_of_ble_eq_true rfl⟩) hS (fun q _ h => hFc q h) hFc (fun r_11 u t H1 locs ht hvm hw hB hz1 hk1 hS => ?_)
        have hP1 : va_P (dC, dI) vwCl [] H1 := fun k q h => by simp at h
        have hD1 : va_D (va_A [] H.size) [] := ⟨fun i j p q h => by simp at h, fun k q h => by simp at h⟩
        try dsimp only at hw
        obtain ⟨hP, hD⟩ := va_join (wr := [(q, .inr (20, [.ref ap, .ref sc, .int x_1, .int 0, .int 0, .ref mm])), (ap, .inl (kQ, 48, .inr (.inr (.inr (.inr g))))), (sc, .inr (5, [.int 1, .ref en.2.2.1, .int 0])), (ap_10, .inr (21, [.int (nI k_2), .ref lp_10, .int 0])), (lp_10, .inr (5, [.int 0, .ref en.2.2.1, .int 0]))]) (w1 := []) hP hD [] [0, 1, 2, 3, 4] rfl rfl (by decide) (by decide) hk1 hFc hP1 hD1
        have hG := hG.hq (hq_.of (ws := []) hk1)
        generalize H1 = H at hP hS hG ⊢
        have hP : va_P (dC, dI) vwCl [(q, .inr (20, [.ref ap, .ref sc, .int x_1, .int 0, .int 0, .ref mm])), (ap, .inl (kQ, 48, .inr (.inr (.inr (.inr g))))), (sc, .inr (5, [.int 1, .ref en.2.2.1, .int 0])), (ap_10, .inr (21, [.int (nI k_2), .ref lp_10, .int 0])), (lp_10, .inr (5, [.int 0, .ref en.2.2.1, .int 0]))] H := hP
        have hD : va_D A [(q, .inr (20, [.ref ap, .ref sc, .int x_1, .int 0, .int 0, .ref mm])), (ap, .inl (kQ, 48, .inr (.inr (.inr (.inr g))))), (sc, .inr (5, [.int 1, .ref en.2.2.1, .int 0])), (ap_10, .inr (21, [.int (nI k_2), .ref lp_10, .int 0])), (lp_10, .inr (5, [.int 0, .ref en.2.2.1, .int 0]))] := hD
        have hR : va_P (dC, dI) vwCl [] H := fun k q h => by simp at h
        refine W.widen (k := 0) (n := 0) (Nat.le_of_ble_eq_true rfl) (Nat.le_of_ble_eq_true rfl) ?_
        subst r_11
        refine lv_iconst (v := 1) hx hb dX14_pass_49 (by decide) ?_
        refine lv_isub hx hb dX14_pass_50 ?_
        refine lv_topi (fun x_12 ex_12 => ?_)
        obtain rfl : x_12 = (-1) := ex_12.trans (by decide)
        refine lv_istore (lv' := [(8, .int (-1)), (7, .ref lp_10), (6, .ref ap_10), (5, .int (nI k_2)), (4, .int 48), (3, .ref ap), (0, .ref q), (1, .int li), (2, .int da)]) hx hb dX14_pass_51 hl (by decide) rfl (fun ls hl => ?_)
        refine lv_iload hx hb dX14_pass_53 (lv_at hl 0 rfl) ?_
        refine lv_if_lt (tgt := 90) hx hb dX14_pass_55 (by decide) (fun c_13 => ?_) (fun c_13 => absurd c_13 (by decide))
        refine lv_iload hx hb dX14_pass_90 (lv_at hl 0 rfl) ?_
        refine lv_if_lt (tgt := 154) hx hb dX14_pass_92 (by decide) (fun c_14 => ?_) (fun c_14 => absurd c_14 (by decide))
        refine lv_aload hx hb dX14_pass_154 (lv_at hl 1 rfl) ?_
        have hPc := (hP.app hR).sub (ws' := [] ++ [(lp_10, .inr (5, [.int 0, .ref en.2.2.1, .int 0]))]) [4] rfl
        have hDc := (en_DD hD hDr hN0 hAb).sub (ws' := [] ++ [(lp_10, .inr (5, [.int 0, .ref en.2.2.1, .int 0]))]) [4] (by decide) rfl
        have hKc := hK.sub (tys' := []) [] rfl
        have hFc := va_free (wc := []) hD hS hA [] rfl
        refine va_callFi (va_runF (As := []) (rest := []) (hK.1 5 _ rfl).2 ⟨hx, hb, hml, hown, hts⟩ (c_isEmpty0 l dC dI b0 en H.size lp_10 en.2.2.1 0) (va_cwF 0 hts go_c_X14_pass_1 rfl rfl rfl (hE.face ("java/util/ArrayList", ⟨"java/util/List", "isEmpty", "()Z"⟩, ⟨"java/util/ArrayList", "isEmpty", "()Z"⟩) (by decide +kernel)) (by decide +kernel) ⟨Nat.le_of_ble_eq_true rfl, Nat.le_of_ble_eq_true rfl⟩) ⟨cP.blind, va_recv hK hP (ci := 5) (q0 := 4) rfl rfl, cP.use (en_z hb0 hS) (hE.on hAb hS) hPc hKc hDc trivial⟩ rfl rfl hl.1 rfl (lv_room (Nat.le_of_ble_eq_true rfl)) dX14_pass_156 ⟨Nat.le_of_ble_eq_true rfl, Nat.le_of_ble_eq_true rfl⟩) hS (fun q _ h => hFc q h) hFc (fun r_15 u t H1 locs ht hvm hw hB hz1 hk1 hS => ?_)
        have hP1 : va_P (dC, dI) vwCl [] H1 := fun k q h => by simp at h
        have hD1 : va_D (va_A [] H.size) [] := ⟨fun i j p q h => by simp at h, fun k q h => by simp at h⟩
        try dsimp only at hw
        obtain ⟨hP, hD⟩ := va_join (wr := [(q, .inr (20, [.ref ap, .ref sc, .int x_1, .int 0, .int 0, .ref mm])), (ap, .inl (kQ, 48, .inr (.inr (.inr (.inr g))))), (sc, .inr (5, [.int 1, .ref en.2.2.1, .int 0])), (ap_10, .inr (21, [.int (nI k_2), .ref lp_10, .int 0])), (lp_10, .inr (5, [.int 0, .ref en.2.2.1, .int 0]))]) (w1 := []) hP hD [] [0, 1, 2, 3, 4] rfl rfl (by decide) (by decide) hk1 hFc hP1 hD1
        have hG := hG.hq (hq_.of (ws := []) hk1)
        generalize H1 = H at hP hS hG ⊢
        have hP : va_P (dC, dI) vwCl [(q, .inr (20, [.ref ap, .ref sc, .int x_1, .int 0, .int 0, .ref mm])), (ap, .inl (kQ, 48, .inr (.inr (.inr (.inr g))))), (sc, .inr (5, [.int 1, .ref en.2.2.1, .int 0])), (ap_10, .inr (21, [.int (nI k_2), .ref lp_10, .int 0])), (lp_10, .inr (5, [.int 0, .ref en.2.2.1, .int 0]))] H := hP
        have hD : va_D A [(q, .inr (20, [.ref ap, .ref sc, .int x_1, .int 0, .int 0, .ref mm])), (ap, .inl (kQ, 48, .inr (.inr (.inr (.inr g))))), (sc, .inr (5, [.int 1, .ref en.2.2.1, .int 0])), (ap_10, .inr (21, [.int (nI k_2), .ref lp_10, .int 0])), (lp_10, .inr (5, [.int 0, .ref en.2.2.1, .int 0]))] := hD
        have hR : va_P (dC, dI) vwCl [] H := fun k q h => by simp at h
        refine W.widen (k := 0) (n := 0) (Nat.le_of_ble_eq_true rfl) (Nat.le_of_ble_eq_true rfl) ?_
        subst r_15
        refine lv_if_ne (tgt := 176) hx hb dX14_pass_161 (by decide) (fun c_16 => ?_) (fun c_16 => absurd c_16 (by decide))
        refine lv_iconst (v := 0) hx hb dX14_pass_176 (by decide) ?_
        refine lv_goto (tgt := 181) hx hb dX14_pass_177 (by decide) ?_
        refine lv_istore (lv' := [(9, .int 0), (8, .int (-1)), (7, .ref lp_10), (6, .ref ap_10), (5, .int (nI k_2)), (4, .int 48), (3, .ref ap), (0, .ref q), (1, .int li), (2, .int da)]) hx hb dX14_pass_181 hl (by decide) rfl (fun ls hl => ?_)
        refine lv_iconst (v := 0) hx hb dX14_pass_183 (by decide) ?_
        refine lv_istore (lv' := [(10, .int 0), (9, .int 0), (8, .int (-1)), (7, .ref lp_10), (6, .ref ap_10), (5, .int (nI k_2)), (4, .int 48), (3, .ref ap), (0, .ref q), (1, .int li), (2, .int da)]) hx hb dX14_pass_184 hl (by decide) rfl (fun ls hl => ?_)
        refine lv_iload hx hb dX14_pass_186 (lv_at hl 0 rfl) ?_
        refine lv_iconst (v := 1) hx hb dX14_pass_188 (by decide) ?_
        refine lv_iadd hx hb dX14_pass_189 ?_
        refine lv_topi (fun x_17 ex_17 => ?_)
        obtain rfl : x_17 = 1 := ex_17.trans (by decide)
        refine lv_aload hx hb dX14_pass_190 (lv_at hl 3 rfl) ?_
        have hPc := (hP.app hR).sub (ws' := [] ++ [(lp_10, .inr (5, [.int 0, .ref en.2.2.1, .int 0]))]) [4] rfl
        have hDc := (en_DD hD hDr hN0 hAb).sub (ws' := [] ++ [(lp_10, .inr (5, [.int 0, .ref en.2.2.1, .int 0]))]) [4] (by decide) rfl
        have hKc := hK.sub (tys' := []) [] rfl
        have hFc := va_free (wc := []) hD hS hA [] rfl
        refine va_callFi (va_runF (As := []) (rest := [.int 1]) (hK.1 5 _ rfl).2 ⟨hx, hb, hml, hown, hts⟩ (c_Jx4a65c_size l dC dI b0 en H.size lp_10 en.2.2.1 0 0) (va_cwF 0 hts go_c_X14_pass_0 rfl rfl rfl (hE.face ("java/util/ArrayList", ⟨"java/util/List", "size", "()I"⟩, ⟨"java/util/ArrayList", "size", "()I"⟩) (by decide +kernel)) (by decide +kernel) ⟨Nat.le_of_ble_eq_true rfl, Nat.le_of_ble_eq_true rfl⟩) ⟨cP.blind, va_recv hK hP (ci := 5) (q0 := 4) rfl rfl, cP.use (en_z hb0 hS) (hE.on hAb hS) hPc hKc hDc trivial⟩ rfl rfl hl.1 rfl (lv_room (Nat.le_of_ble_eq_true rfl)) dX14_pass_192 ⟨Nat.le_of_ble_eq_true rfl, Nat.le_of_ble_eq_true rfl⟩) hS (fun q _ h => hFc q h) hFc (fun r_18 u t H1 locs ht hvm hw hB hz1 hk1 hS => ?_)
        have hP1 : va_P (dC, dI) vwCl [] H1 := fun k q h => by simp at h
        have hD1 : va_D (va_A [] H.size) [] := ⟨fun i j p q h => by simp at h, fun k q h => by simp at h⟩
        try dsimp only at hw
        obtain ⟨hP, hD⟩ := va_join (wr := [(q, .inr (20, [.ref ap, .ref sc, .int x_1, .int 0, .int 0, .ref mm])), (ap, .inl (kQ, 48, .inr (.inr (.inr (.inr g))))), (sc, .inr (5, [.int 1, .ref en.2.2.1, .int 0])), (ap_10, .inr (21, [.int (nI k_2), .ref lp_10, .int 0])), (lp_10, .inr (5, [.int 0, .ref en.2.2.1, .int 0]))]) (w1 := []) hP hD [] [0, 1, 2, 3, 4] rfl rfl (by decide) (by decide) hk1 hFc hP1 hD1
        have hG := hG.hq (hq_.of (ws := []) hk1)
        generalize H1 = H at hP hS hG ⊢
        have hP : va_P (dC, dI) vwCl [(q, .inr (20, [.ref ap, .ref sc, .int x_1, .int 0, .int 0, .ref mm])), (ap, .inl (kQ, 48, .inr (.inr (.inr (.inr g))))), (sc, .inr (5, [.int 1, .ref en.2.2.1, .int 0])), (ap_10, .inr (21, [.int (nI k_2), .ref lp_10, .int 0])), (lp_10, .inr (5, [.int 0, .ref en.2.2.1, .int 0]))] H := hP
        have hD : va_D A [(q, .inr (20, [.ref ap, .ref sc, .int x_1, .int 0, .int 0, .ref mm])), (ap, .inl (kQ, 48, .inr (.inr (.inr (.inr g))))), (sc, .inr (5, [.int 1, .ref en.2.2.1, .int 0])), (ap_10, .inr (21, [.int (nI k_2), .ref lp_10, .int 0])), (lp_10, .inr (5, [.int 0, .ref en.2.2.1, .int 0]))] := hD
        have hR : va_P (dC, dI) vwCl [] H := fun k q h => by simp at h
        refine W.widen (k := 0) (n := 0) (Nat.le_of_ble_eq_true rfl) (Nat.le_of_ble_eq_true rfl) ?_
        subst r_18
        refine lv_icmp_ge (tgt := 320) hx hb dX14_pass_197 (by decide) (fun c_19 => ?_) (fun c_19 => absurd c_19 (by decide))
        refine lv_aload hx hb dX14_pass_320 (lv_at hl 4 rfl) ?_
        refine lv_iload hx hb dX14_pass_322 (lv_at hl 1 rfl) ?_
        have hPc := (hP.app hR).sub (ws' := [(ap_10, .inr (21, [.int (nI k_2), .ref lp_10, .int 0]))] ++ []) [3] rfl
        have hDc := (en_DD hD hDr hN0 hAb).sub (ws' := [(ap_10, .inr (21, [.int (nI k_2), .ref lp_10, .int 0]))] ++ []) [3] (by decide) rfl
        have hKc := hK.sub (tys' := []) [] rfl
        have hFc := va_free (wc := [(ap_10, .inr (21, [.int (nI k_2), .ref lp_10, .int 0]))]) hD hS hA [3] rfl
        refine va_callv (va_runV (As := [.int 0]) (rest := []) ⟨hx, hb, hml, hown, hts⟩ (c_X15_tires0 l dC dI b0 en H.size ap_10 lp_10 (nI k_2) H) (cwV 1 hts go_c_X14_pass_2 rfl rfl rfl (by decide +kernel) ⟨Nat.le_of_ble_eq_true rfl, Nat.le_of_ble_eq_true rfl⟩) ⟨cP.blind, va_recv hK hP (ci := 21) (q0 := 3) rfl rfl, cP.use (en_z hb0 hS) (hE.on hAb hS) hPc hKc hDc rfl⟩ rfl rfl hl.1 rfl (lv_room (Nat.le_of_ble_eq_true rfl)) dX14_pass_324 ⟨Nat.le_of_ble_eq_true rfl, Nat.le_of_ble_eq_true rfl⟩) hS (fun q _ h => hFc q h) hFc (fun u t H1 locs ht hvm hw hB hz1 hk1 hS => ?_)
        obtain ⟨hP1, hK1, hD1, hF1⟩ := hB
        rw [ht] at hF1
        try dsimp only at hw
        have hq9 : hq_ H H1 := hF1
        have hP := hP.hq hq9
        have hG := hG.hq hq9
        clear hP1 hF1 hK1 hD1
        generalize H1 = H at hP hS hG ⊢
        have hP : va_P (dC, dI) vwCl [(q, .inr (20, [.ref ap, .ref sc, .int x_1, .int 0, .int 0, .ref mm])), (ap, .inl (kQ, 48, .inr (.inr (.inr (.inr g))))), (sc, .inr (5, [.int 1, .ref en.2.2.1, .int 0])), (ap_10, .inr (21, [.int (nI k_2), .ref lp_10, .int 0])), (lp_10, .inr (5, [.int 0, .ref en.2.2.1, .int 0]))] H := hP
        have hD : va_D A [(q, .inr (20, [.ref ap, .ref sc, .int x_1, .int 0, .int 0, .ref mm])), (ap, .inl (kQ, 48, .inr (.inr (.inr (.inr g))))), (sc, .inr (5, [.int 1, .ref en.2.2.1, .int 0])), (ap_10, .inr (21, [.int (nI k_2), .ref lp_10, .int 0])), (lp_10, .inr (5, [.int 0, .ref en.2.2.1, .int 0]))] := hD
        have hR : va_P (dC, dI) vwCl [] H := fun k q h => by simp at h
        refine W.widen (k := 0) (n := 0) (Nat.le_of_ble_eq_true rfl) (Nat.le_of_ble_eq_true rfl) ?_
        refine lv_aload hx hb dX14_pass_327 (lv_at hl 4 rfl) ?_
        have hPc := (hP.app hR).sub (ws' := [] ++ [(ap_10, .inr (21, [.int (nI k_2), .ref lp_10, .int 0])), (lp_10, .inr (5, [.int 0, .ref en.2.2.1, .int 0]))]) [3, 4] rfl
        have hDc := (en_DD hD hDr hN0 hAb).sub (ws' := [] ++ [(ap_10, .inr (21, [.int (nI k_2), .ref lp_10, .int 0])), (lp_10, .inr (5, [.int 0, .ref en.2.2.1, .int 0]))]) [3, 4] (by decide) rfl
        have hKc := hK.sub (tys' := []) [] rfl
        have hFc := va_free (wc := []) hD hS hA [] rfl
        refine va_callq (va_runV (As := []) (rest := []) ⟨hx, hb, hml, hown, hts⟩ (c_X15_top l dC dI b0 en H.size ap_10 lp_10 (nI k_2)) (cwV 0 hts go_c_X14_pass_3 rfl rfl rfl (by decide +kernel) ⟨Nat.le_of_ble_eq_true rfl, Nat.le_of_ble_eq_true rfl⟩) ⟨cP.blind, va_recv hK hP (ci := 21) (q0 := 3) rfl rfl, cP.use (en_z hb0 hS) (hE.on hAb hS) hPc hKc hDc trivial⟩ rfl rfl hl.1 rfl (lv_room (Nat.le_of_ble_eq_true rfl)) dX14_pass_329 ⟨Nat.le_of_ble_eq_true rfl, Nat.le_of_ble_eq_true rfl⟩) hS (fun q _ h => hFc q h) hFc (fun r_21 u t H1 locs ht hvm hw hB hz1 hk1 hS => ?_)
        have hP1 : va_P (dC, dI) vwCl [] H1 := fun k q h => by simp at h
        have hD1 : va_D (va_A [] H.size) [] := ⟨fun i j p q h => by simp at h, fun k q h => by simp at h⟩
        try dsimp only at hw
        obtain ⟨hP, hD⟩ := va_join (wr := [(q, .inr (20, [.ref ap, .ref sc, .int x_1, .int 0, .int 0, .ref mm])), (ap, .inl (kQ, 48, .inr (.inr (.inr (.inr g))))), (sc, .inr (5, [.int 1, .ref en.2.2.1, .int 0])), (ap_10, .inr (21, [.int (nI k_2), .ref lp_10, .int 0])), (lp_10, .inr (5, [.int 0, .ref en.2.2.1, .int 0]))]) (w1 := []) hP hD [] [0, 1, 2, 3, 4] rfl rfl (by decide) (by decide) hk1 hFc hP1 hD1
        have hG := hG.hq (hq_.of (ws := []) hk1)
        generalize H1 = H at hP hS hG ⊢
        have hP : va_P (dC, dI) vwCl [(q, .inr (20, [.ref ap, .ref sc, .int x_1, .int 0, .int 0, .ref mm])), (ap, .inl (kQ, 48, .inr (.inr (.inr (.inr g))))), (sc, .inr (5, [.int 1, .ref en.2.2.1, .int 0])), (ap_10, .inr (21, [.int (nI k_2), .ref lp_10, .int 0])), (lp_10, .inr (5, [.int 0, .ref en.2.2.1, .int 0]))] H := hP
        have hD : va_D A [(q, .inr (20, [.ref ap, .ref sc, .int x_1, .int 0, .int 0, .ref mm])), (ap, .inl (kQ, 48, .inr (.inr (.inr (.inr g))))), (sc, .inr (5, [.int 1, .ref en.2.2.1, .int 0])), (ap_10, .inr (21, [.int (nI k_2), .ref lp_10, .int 0])), (lp_10, .inr (5, [.int 0, .ref en.2.2.1, .int 0]))] := hD
        have hR : va_P (dC, dI) vwCl [] H := fun k q h => by simp at h
        refine W.widen (k := 0) (n := 0) (Nat.le_of_ble_eq_true rfl) (Nat.le_of_ble_eq_true rfl) ?_
        subst r_21
        refine lv_astoreN (lv' := [(10, .null), (9, .int 0), (8, .int (-1)), (7, .ref lp_10), (6, .ref ap_10), (5, .int (nI k_2)), (4, .int 48), (3, .ref ap), (0, .ref q), (1, .int li), (2, .int da)]) hx hb dX14_pass_332 hl (by decide) rfl (fun ls hl => ?_)
        refine lv_aload_n hx hb dX14_pass_334 rfl (lv_at hl 8 rfl) ?_
        refine va_get (D := (dC, dI)) (ci := 20) (v := .int x_1) (C := RX14) (T := TX14) (N := 6) hx hb hts (by decide +kernel) hown hK hP 0 rfl rfl 2 (by decide) (hts (.fieldLink RX14 28 "UnderpaintModel$Picture" "year" "I") (by decide +kernel)) (fun _ h9 => h9) rfl dX14_pass_335 ?_
        refine lv_bipush (v := 10) hx hb dX14_pass_338 (by decide) ?_
        refine lv_irem hx hb dX14_pass_340 (by decide) ?_
        refine lv_topi (fun x_22 ex_22 => ?_)
        refine lv_if_ne (tgt := 379) hx hb dX14_pass_341 (by decide) (fun c_23 => ?_) (fun c_23 => ?_)
        · skip
          obtain ⟨x_24, ex_24⟩ : ∃ y : Int32, y = (nI k_2) + 1 := ⟨_, rfl⟩
          refine lv_iinc (v := x_24) (lv' := [(5, .int x_24), (10, .null), (9, .int 0), (8, .int (-1)), (7, .ref lp_10), (6, .ref ap_10), (4, .int 48), (3, .ref ap), (0, .ref q), (1, .int li), (2, .int da)]) hx hb dX14_pass_379 hl (k := 5) rfl (by rw [ex_24]; rfl) (by decide) rfl (fun ls hl => ?_)
          have hy : x_24 = nI (k_2 + 1) := by rw [ex_24]; exact nI_1 k_2
          subst hy
          refine lv_goto (tgt := 22) hx hb dX14_pass_382 (by decide) ?_
          exact ih (k_2 + 1) (by omega)  _ _ (hP.sub [0, 1, 2] rfl) (hD.sub [0, 1, 2] (by decide) rfl) hS hG _ (lv_sub hl [0, 6, 7, 8, 9, 10] rfl)
        · skip
          refine lv_aloadN hx hb dX14_pass_344 (lv_at hl 0 rfl) ?_
          refine lv_ifnullN (tgt := 379) hx hb dX14_pass_346 (by decide) ?_
          obtain ⟨x_25, ex_25⟩ : ∃ y : Int32, y = (nI k_2) + 1 := ⟨_, rfl⟩
          refine lv_iinc (v := x_25) (lv' := [(5, .int x_25), (10, .null), (9, .int 0), (8, .int (-1)), (7, .ref lp_10), (6, .ref ap_10), (4, .int 48), (3, .ref ap), (0, .ref q), (1, .int li), (2, .int da)]) hx hb dX14_pass_379 hl (k := 5) rfl (by rw [ex_25]; rfl) (by decide) rfl (fun ls hl => ?_)
          have hy : x_25 = nI (k_2 + 1) := by rw [ex_25]; exact nI_1 k_2
          subst hy
          refine lv_goto (tgt := 22) hx hb dX14_pass_382 (by decide) ?_
          exact ih (k_2 + 1) (by omega)  _ _ (hP.sub [0, 1, 2] rfl) (hD.sub [0, 1, 2] (by decide) rfl) hS hG _ (lv_sub hl [0, 6, 7, 8, 9, 10] rfl)
  exact loop_22 48 0 rfl  _ _ hP hD hS hG ls (lv_sub hl [0, 1, 2, 3, 4, 5] rfl)
theorem z_c_does_y_157 (fN : Nat → Int32) (yy : Nat) (yk : Int32) (k_1 : Nat) (x_12 : Int32) (x_13 : Int32) (u_14 : Int32) (a_0 : yy ≤ 50) (a_1 : fN 0 = nI yy) (a_2 : 0 ≤ nI k_1 ∧ nI k_1 < nI yy) (a_3 : nI k_1 + 1 = nI (k_1 + 1)) (a_4 : yk = 1600 + nI k_1) (a_5 : x_12 = fN 1) (a_6 : x_13 = fN 2) (a_7 : u_14 = yk + 1) : u_14 = 1600 + nI (k_1 + 1) := by first | rfl | grind
theorem z_c_does_y_158 (fN : Nat → Int32) (yy : Nat) (a_0 : yy ≤ 50) (a_1 : fN 0 = nI yy) : (1600 : Int32) = 1600 + nI 0 := by first | rfl | grind
def wo_c_does_y_w : List Cond := [Cond.fieldLink RX14 28 "UnderpaintModel$Picture" "year" "I"]
def wo_c_does_y : List Cond := .code yX14_does cX14_does 4 (some .int) :: (wo_c_does_y_w ++ (u_ws RX12 TX12 2 ++ (u_ws RX14 TX14 6 ++ (wsV RX14 177 RX14 yX14_pass wo_c_X14_pass ++ List.nil))))
theorem gw_wo_c_does_y : wo_c_does_y.all goodWord = true := gw_c (by decide +kernel) (gw_a (by decide +kernel) (gw_a (by decide +kernel) (gw_a (by decide +kernel) (gw_a (gw_a (by decide +kernel) gw_wo_c_X14_pass) rfl))))
theorem go_c_does_y_0 : GoodIn wo_c_does_y (wsV RX14 177 RX14 yX14_pass wo_c_X14_pass) := goodIn_sub (fun _ h => List.mem_cons_of_mem _ (List.mem_append_right _ (List.mem_append_right _ (List.mem_append_right _ (List.mem_append_left _ h))))) (gw_a (by decide +kernel) gw_wo_c_X14_pass)
set_option maxHeartbeats 4000000 in
set_option maxRecDepth 100000 in
/-- Picture.does(years) -/
theorem c_does_y (l : Launch) (dC : Nat → ClassId) (dI : Nat → Nat → Nat) (b0 : Nat) (en : EnT) (sz : Nat) (q ap sc mm c0 : Nat) (kQ : ClassId) (g : Nat → Option Nat) (ac na : Nat) (kA : ClassId) (fN : Nat → Int32) (yy : Nat) (hN : yy ≤ 50) (hfN : fN 0 = nI yy) (hbc : b0 ≤ c0) (hcs : c0 ≤ sz) (hWc : ∀ (k9 : Nat) (q9 : Nat × va_E), ([(q, .inr (20, [.ref ap, .ref sc, .int 1600, .int 0, .int 0, .ref mm])), (ap, .inl (kQ, 48, .inr (.inr (.inr (.inr g))))), (sc, .inr (5, [.int 1, .ref en.2.2.1, .int 0]))] : va_W)[k9]? = some q9 → c0 ≤ q9.1) (hRc : ∀ (k9 : Nat) (q9 : Nat × va_E), ([(ac, .inr (18, [.int 121, .ref na])), (na, .inl (kA, 3, .inl fN))] : va_W)[k9]? = some q9 → q9.1 < c0) : Met l yX14_does wo_c_does_y ({ frames := 3, cells := 0, slots := 0, locals := 93 } : Room) (cP b0 en (dC, dI) [(kQ, .object "UnderpaintModel$Place"), (kA, .int)] [(q, .inr (20, [.ref ap, .ref sc, .int 1600, .int 0, .int 0, .ref mm])), (ap, .inl (kQ, 48, .inr (.inr (.inr (.inr g))))), (sc, .inr (5, [.int 1, .ref en.2.2.1, .int 0]))] [(ac, .inr (18, [.int 121, .ref na])), (na, .inl (kA, 3, .inl fN))] sz (fun U => FamP (dC, dI) (vN c0 [q, ap, sc]) en.2.2.1 g U) [.ref q, .ref ac]) (va_Qi (fun (r : Int32) (u : Unit) => r = 1600 + nI yy ∧ r ≠ -1) (fun u t => cB (dC, dI) [] [] (vC c0) (fun _ => True) t) (vC c0)) 0 0 (vC c0) := by
  refine Met.ofW (cc := cX14_does) (maxL := 4) (ret := (some .int)) (by decide) rfl ?_
  intro p e s m args below meth c s₁ B hml hv
  obtain ⟨rfl, hsz, hb0, hE, hPP, hK, hDD, hF0⟩ := hv
  have hx := B.exec
  have hb := B.bytes
  have hr := B.returns
  have hts := atoms_spec (ws := wo_c_does_y) B.pre
  have hown : s.vm.findClass RX14 = some m.cls := findClass_of_methodNamed B.named
  have hlocks := B.notSynchronized
  subst hsz
  have hN0 : ∀ (k9 : Nat) (q9 : Nat × va_E), ([(ac, .inr (18, [.int 121, .ref na])), (na, .inl (kA, 3, .inl fN))] : va_W)[k9]? = some q9 → ¬ vC c0 q9.1 := fun k q h => Nat.not_le.mpr (hRc k q h)
  have hP : va_P (dC, dI) vwCl [(q, .inr (20, [.ref ap, .ref sc, .int 1600, .int 0, .int 0, .ref mm])), (ap, .inl (kQ, 48, .inr (.inr (.inr (.inr g))))), (sc, .inr (5, [.int 1, .ref en.2.2.1, .int 0]))] s.heap := hPP.sub [0, 1, 2] rfl
  have hR0 : va_P (dC, dI) vwCl [(ac, .inr (18, [.int 121, .ref na])), (na, .inl (kA, 3, .inl fN))] s.heap := hPP.sub [3, 4] rfl
  have hD0 : va_D (fun q => b0 ≤ q) [(q, .inr (20, [.ref ap, .ref sc, .int 1600, .int 0, .int 0, .ref mm])), (ap, .inl (kQ, 48, .inr (.inr (.inr (.inr g))))), (sc, .inr (5, [.int 1, .ref en.2.2.1, .int 0]))] := hDD.sub [0, 1, 2] (by decide) rfl
  have hDr : va_D (fun q => b0 ≤ q) [(ac, .inr (18, [.int 121, .ref na])), (na, .inl (kA, 3, .inl fN))] := hDD.sub [3, 4] (by decide) rfl
  have hAb : ∀ q, vC c0 q → b0 ≤ q := fun q h => Nat.le_trans hbc h
  have hD : va_D (vC c0) [(q, .inr (20, [.ref ap, .ref sc, .int 1600, .int 0, .int 0, .ref mm])), (ap, .inl (kQ, 48, .inr (.inr (.inr (.inr g))))), (sc, .inr (5, [.int 1, .ref en.2.2.1, .int 0]))] := ⟨hD0.1, hWc⟩
  have hAc : ∀ q : Nat, c0 ≤ q → vC c0 q := fun q h => h
  have hA0 : ∀ q : Nat, s.heap.size ≤ q → vC c0 q := fun q h => Nat.le_trans hcs h
  generalize hAe : vC c0 = A at hD hAb hN0 hAc hA0 ⊢
  have hA : ∀ q : Nat, s.heap.size ≤ q → A q := hA0
  have hS : va_S A s.heap s.heap [] := va_S.rf
  have hR := hR0
  have hl := lv_entry [.ref q, .ref ac] (n := 4) (Nat.le_of_ble_eq_true rfl)
  rw [lg_entry_eq]
  generalize (lg_sl [.ref q, .ref ac] ++ List.replicate (4 - (lg_sl [.ref q, .ref ac]).length) Slot.unset).toArray = ls at hl ⊢
  have hl : lv_has ls 4 [(0, .ref q), (1, .ref ac)] := hl
  have hge_q : c0 ≤ q := (hWc 0 _ rfl)
  have hge_ap : c0 ≤ ap := (hWc 1 _ rfl)
  have hge_sc : c0 ≤ sc := (hWc 2 _ rfl)
  have hlt_ac : ac < c0 := (hRc 0 _ rfl)
  have hlt_na : na < c0 := (hRc 1 _ rfl)
  have hG := hF0
  refine W.gen (fun Q hQ => ?_)
  have hR0b := hR0
  have hDrb := hDr
  have hN0b := hN0
  refine lv_aload_n hx hb dX14_does_0 rfl (lv_at hl 1 rfl) ?_
  refine va_getN (D := (dC, dI)) (ci := 18) (v := .ref na) (C := RX12) (T := TX12) (N := 2) hx hb hts (by decide +kernel) hown hK hR 0 rfl rfl 1 (by decide) (va_Nw.use rfl (hE.nf ("UnderpaintModel$Picture", 161, "UnderpaintModel$Act", "n", "[I", "UnderpaintModel") (by decide +kernel))) (fun _ h9 => h9) rfl dX14_does_1 ?_
  refine lv_astore_n (lv' := [(2, .ref na), (0, .ref q), (1, .ref ac)]) hx hb dX14_does_4 rfl hl (by decide) rfl (fun ls hl => ?_)
  refine lv_aload_n hx hb dX14_does_5 rfl (lv_at hl 2 rfl) ?_
  refine va_getN (D := (dC, dI)) (ci := 18) (v := .int 121) (C := RX12) (T := TX12) (N := 2) hx hb hts (by decide +kernel) hown hK hR 0 rfl rfl 0 (by decide) (va_Nw.use rfl (hE.nf ("UnderpaintModel$Picture", 167, "UnderpaintModel$Act", "what", "C", "UnderpaintModel") (by decide +kernel))) (fun _ h9 => h9) rfl dX14_does_6 ?_
  refine lv_tableIn (off := 119) (tgt := 128) hx hb dX14_does_9 (by decide) (by decide) (by decide) (by decide) ?_
  refine lv_iconst (v := 0) hx hb dX14_does_128 (by decide) ?_
  refine lv_istore_n (lv' := [(3, .int 0), (2, .ref na), (0, .ref q), (1, .ref ac)]) hx hb dX14_does_129 rfl hl (by decide) rfl (fun ls hl => ?_)
  have loop_130 : ∀ (n_2 k_1 : Nat), n_2 + k_1 = yy → ∀ yk : Int32, yk = 1600 + nI k_1 → ∀ (H : Heap) (locs : List Loc), va_P (dC, dI) vwCl [(q, .inr (20, [.ref ap, .ref sc, .int yk, .int 0, .int 0, .ref mm])), (ap, .inl (kQ, 48, .inr (.inr (.inr (.inr g))))), (sc, .inr (5, [.int 1, .ref en.2.2.1, .int 0]))] H → va_D A [(q, .inr (20, [.ref ap, .ref sc, .int yk, .int 0, .int 0, .ref mm])), (ap, .inl (kQ, 48, .inr (.inr (.inr (.inr g))))), (sc, .inr (5, [.int 1, .ref en.2.2.1, .int 0]))] → va_S A s.heap H locs → FamP (dC, dI) (vN c0 [q, ap, sc]) en.2.2.1 g H → ∀ ls : Array Slot, lv_has ls 4 [(3, .int (nI k_1)), (2, .ref na), (0, .ref q), (1, .ref ac)] → W p l e (headSpec wo_c_does_y ({ frames := 3, cells := 0, slots := 0, locals := 93 } : Room)).room s m #[.ref q, .ref ac] below meth c H locs 0 0 Q (F0 m 130 ls []) := by
    intro n_2
    induction n_2 with
    | zero =>
      intro k_1 hk_3 yk h_4 H locs hP hD hS hG ls hl
      have ek_1 : yy = k_1 := by omega
      subst ek_1
      have hl : lv_has ls 4 [(3, .int (nI yy)), (2, .ref na), (0, .ref q), (1, .ref ac)] := hl
      have hR := en_R hR0 hN0 hS
      have hI_130 := h_4
      refine lv_iload_n hx hb dX14_does_130 rfl (lv_at hl 0 rfl) ?_
      refine lv_aload_n hx hb dX14_does_131 rfl (lv_at hl 1 rfl) ?_
      refine lv_iconst (v := 0) hx hb dX14_does_132 (by decide) ?_
      refine va_iald hx hb hK hR 1 1 rfl rfl (vp_in_nI (by decide : 0 < 3) (by decide)) dX14_does_133 ?_
      refine lv_topi (fun x_5 ex_5 => ?_)
      obtain rfl : x_5 = nI yy := ex_5.trans (show fN _ = _ from hfN)
      refine lv_icmp_ge (tgt := 153) hx hb dX14_does_134 (by decide) (fun c_6 => ?_) (fun c_6 => ?_)
      · skip
        refine lv_aload_n hx hb dX14_does_153 rfl (lv_at hl 2 rfl) ?_
        refine va_get (D := (dC, dI)) (ci := 20) (v := .int yk) (C := RX14) (T := TX14) (N := 6) hx hb hts (by decide +kernel) hown hK hP 0 rfl rfl 2 (by decide) (hts (.fieldLink RX14 28 "UnderpaintModel$Picture" "year" "I") (by decide +kernel)) (fun _ h9 => h9) rfl dX14_does_154 ?_
        subst hQ
        refine W.widen (k := 0) (n := 0) (Nat.le_of_ble_eq_true rfl) (Nat.le_of_ble_eq_true rfl) ?_
        exact W.iret (v := yk) hx hb hr (fun t ht hW => ⟨⟨yk, (), rfl, ⟨h_4, by rw [h_4]; exact y_ne yy hN⟩, cB.mk ht hW (hP.sub [] rfl) (hK.sub [] rfl) (hD.sub [] (by decide) rfl) (trivial)⟩, hS.F ht⟩) hS.2.2 dX14_does_157
      · skip
        exact absurd (Int32.le_refl _) c_6
    | succ n_2 ih =>
      intro k_1 hk_3 yk h_4 H locs hP hD hS hG ls hl
      have hk_7 : k_1 < yy := by omega
      have hb_8 : 0 ≤ nI k_1 ∧ nI k_1 < nI yy := ⟨nI_le (Nat.zero_le _) (by omega), nI_lt hk_7 (by omega)⟩
      have hn_9 := nI_1 k_1
      have hI_130 := h_4
      have hR := en_R hR0 hN0 hS
      refine lv_iload_n hx hb dX14_does_130 rfl (lv_at hl 0 rfl) ?_
      refine lv_aload_n hx hb dX14_does_131 rfl (lv_at hl 1 rfl) ?_
      refine lv_iconst (v := 0) hx hb dX14_does_132 (by decide) ?_
      refine va_iald hx hb hK hR 1 1 rfl rfl (vp_in_nI (by decide : 0 < 3) (by decide)) dX14_does_133 ?_
      refine lv_topi (fun x_10 ex_10 => ?_)
      obtain rfl : x_10 = nI yy := ex_10.trans (show fN _ = _ from hfN)
      refine lv_icmp_ge (tgt := 153) hx hb dX14_does_134 (by decide) (fun c_11 => ?_) (fun c_11 => ?_)
      · skip
        exact absurd c_11 (nI_ge hk_7 (by omega))
      · skip
        refine lv_aload_n hx hb dX14_does_137 rfl (lv_at hl 2 rfl) ?_
        refine lv_aload_n hx hb dX14_does_138 rfl (lv_at hl 1 rfl) ?_
        refine lv_iconst (v := 1) hx hb dX14_does_139 (by decide) ?_
        refine va_iald hx hb hK hR 1 1 rfl rfl (vp_in_nI (by decide : 1 < 3) (by decide)) dX14_does_140 ?_
        refine lv_topi (fun x_12 ex_12 => ?_)
        refine lv_aload_n hx hb dX14_does_141 rfl (lv_at hl 1 rfl) ?_
        refine lv_iconst (v := 2) hx hb dX14_does_142 (by decide) ?_
        refine va_iald hx hb hK hR 1 1 rfl rfl (vp_in_nI (by decide : 2 < 3) (by decide)) dX14_does_143 ?_
        refine lv_topi (fun x_13 ex_13 => ?_)
        have hPc := (hP.app hR).sub (ws' := [(q, .inr (20, [.ref ap, .ref sc, .int yk, .int 0, .int 0, .ref mm])), (ap, .inl (kQ, 48, .inr (.inr (.inr (.inr g))))), (sc, .inr (5, [.int 1, .ref en.2.2.1, .int 0]))] ++ []) [0, 1, 2] rfl
        have hDc := (en_DD hD hDr hN0 hAb).sub (ws' := [(q, .inr (20, [.ref ap, .ref sc, .int yk, .int 0, .int 0, .ref mm])), (ap, .inl (kQ, 48, .inr (.inr (.inr (.inr g))))), (sc, .inr (5, [.int 1, .ref en.2.2.1, .int 0]))] ++ []) [0, 1, 2] (by decide) rfl
        have hKc := hK.sub (tys' := [(kQ, .object "UnderpaintModel$Place")]) [0] rfl
        have hFc : ∀ q, vC c0 q → A q := fun q h => hAc q h
        refine va_callv (va_runV (As := [.int x_12, .int x_13]) (rest := []) ⟨hx, hb, hml, hown, hts⟩ (c_X14_pass l dC dI b0 en H.size q ap sc mm c0 kQ g yk x_12 x_13 hbc (Nat.le_trans hcs hS.1) (vW1 (by first | exact hge_q | exact hc0_q | omega) (vW1 (by first | exact hge_ap | exact hc0_ap | omega) (vW1 (by first | exact hge_sc | exact hc0_sc | omega) vW0))) vL0) (cwV 2 hts go_c_does_y_0 rfl rfl rfl (by decide +kernel) ⟨Nat.le_of_ble_eq_true rfl, Nat.le_of_ble_eq_true rfl⟩) ⟨cP.blind, va_recv hK hP (ci := 20) (q0 := 0) rfl rfl, cP.use (en_z hb0 hS) (hE.on hAb hS) hPc hKc hDc hG⟩ rfl rfl hl.1 rfl (lv_room (Nat.le_of_ble_eq_true rfl)) dX14_does_144 ⟨Nat.le_of_ble_eq_true rfl, Nat.le_of_ble_eq_true rfl⟩) hS (fun q _ h => hFc q h) hFc (fun u_14 t H1 locs ht hvm hw hB hz1 hk1 hS => ?_)
        obtain ⟨hP1, hK1, hD1, hF1⟩ := hB
        rw [ht] at hP1
        try rw [ht] at hF1
        have hK1 := va_K.moved hvm.symm hK1
        try dsimp only at hw
        have hLk : ∀ (k9 : Nat) (q9 : Nat × va_E), ([] : va_W)[k9]? = some q9 → q9.1 < c0 := vL0
        have hP := (vC_kept (hP.sub (ws' := []) [] rfl) hLk hk1).app hP1
        have hD := vC_app (hD.sub (ws' := []) [] (by decide) rfl) hLk hD1 hAc
        have hK := hK.app hK1
        have hG := hF1
        generalize H1 = H at hP hS hG ⊢
        have hP : va_P (dC, dI) vwCl [(q, .inr (20, [.ref ap, .ref sc, .int u_14, .int 0, .int 0, .ref mm])), (ap, .inl (kQ, 48, .inr (.inr (.inr (.inr g))))), (sc, .inr (5, [.int 1, .ref en.2.2.1, .int 0]))] H := hP
        have hD : va_D A [(q, .inr (20, [.ref ap, .ref sc, .int u_14, .int 0, .int 0, .ref mm])), (ap, .inl (kQ, 48, .inr (.inr (.inr (.inr g))))), (sc, .inr (5, [.int 1, .ref en.2.2.1, .int 0]))] := hD
        have hR := en_R hR0 hN0 hS
        refine W.widen (k := 0) (n := 0) (Nat.le_of_ble_eq_true rfl) (Nat.le_of_ble_eq_true rfl) ?_
        have h_16 := hw
        obtain ⟨x_17, ex_17⟩ : ∃ y : Int32, y = (nI k_1) + 1 := ⟨_, rfl⟩
        refine lv_iinc (v := x_17) (lv' := [(3, .int x_17), (2, .ref na), (0, .ref q), (1, .ref ac)]) hx hb dX14_does_147 hl (k := 0) rfl (by rw [ex_17]; rfl) (by decide) rfl (fun ls hl => ?_)
        have hy : x_17 = nI (k_1 + 1) := by rw [ex_17]; exact nI_1 k_1
        subst hy
        refine lv_goto (tgt := 130) hx hb dX14_does_150 (by decide) ?_
        exact ih (k_1 + 1) (by omega) u_14 (z_c_does_y_157 fN yy yk k_1 x_12 x_13 u_14 hN hfN hb_8 hn_9 h_4 ex_12 ex_13 h_16) _ _ hP hD hS hG _ (lv_sub hl [0, 1, 2, 3] rfl)
  exact loop_130 yy 0 rfl 1600 (z_c_does_y_158 fN yy hN hfN) _ _ hP hD hS hG ls (lv_sub hl [0, 1, 2, 3] rfl)
theorem z_c_X14_scratches_159   : (-1 : Int32) = -1 := by first | decide +kernel | grind
def wo_c_X14_scratches_w : List Cond := []
def wo_c_X14_scratches : List Cond := .code yX14_scratches cX14_scratches 5 (some .int) :: (wo_c_X14_scratches_w ++ (wsV RX14 157 RX15 yX15_top wsX15_top ++ List.nil))
theorem gw_wo_c_X14_scratches : wo_c_X14_scratches.all goodWord = true := gw_c (by decide +kernel) (gw_a (by decide +kernel) (gw_a (gw_a (by decide +kernel) gw_wsX15_top) rfl))
theorem go_c_X14_scratches_0 : GoodIn wo_c_X14_scratches (wsV RX14 157 RX15 yX15_top wsX15_top) := goodIn_sub (fun _ h => List.mem_cons_of_mem _ (List.mem_append_right _ (List.mem_append_left _ h))) (gw_a (by decide +kernel) gw_wsX15_top)
set_option maxHeartbeats 4000000 in
set_option maxRecDepth 100000 in
/-- Picture.scratches of a place without layers -/
theorem c_X14_scratches (l : Launch) (dC : Nat → ClassId) (dI : Nat → Nat → Nat) (b0 : Nat) (en : EnT) (sz : Nat) (q : Nat) (pa pl : Nat) (num : Int32) (de : Int32) : Met l yX14_scratches wo_c_X14_scratches ({ frames := 2, cells := 0, slots := 0, locals := 40 } : Room) (cP b0 en (dC, dI) [] [] [(pa, .inr (21, [.int num, .ref pl, .int 0])), (pl, .inr (5, [.int 0, .ref en.2.2.1, .int 0]))] sz (fun _ => True) [.ref q, .ref pa, .int de]) (va_Qi (fun (r : Int32) (_ : Unit) => r = -1) (fun _ _ => True) (va_A [] sz)) 0 0 (va_A [] sz) := by
  refine Met.ofW (cc := cX14_scratches) (maxL := 5) (ret := (some .int)) (by decide) rfl ?_
  intro p e s m args below meth c s₁ B hml hv
  obtain ⟨rfl, hsz, hb0, hE, hPP, hK, hDD, hF0⟩ := hv
  have hx := B.exec
  have hb := B.bytes
  have hr := B.returns
  have hts := atoms_spec (ws := wo_c_X14_scratches) B.pre
  have hown : s.vm.findClass RX14 = some m.cls := findClass_of_methodNamed B.named
  have hlocks := B.notSynchronized
  subst hsz
  have hN0 := en_N hPP hDD rfl
  have hP : va_P (dC, dI) vwCl [] s.heap := hPP.sub [] rfl
  have hR0 : va_P (dC, dI) vwCl [(pa, .inr (21, [.int num, .ref pl, .int 0])), (pl, .inr (5, [.int 0, .ref en.2.2.1, .int 0]))] s.heap := hPP.sub [0, 1] rfl
  have hD0 : va_D (fun q => b0 ≤ q) [] := hDD.sub [] (by decide) rfl
  have hDr : va_D (fun q => b0 ≤ q) [(pa, .inr (21, [.int num, .ref pl, .int 0])), (pl, .inr (5, [.int 0, .ref en.2.2.1, .int 0]))] := hDD.sub [0, 1] (by decide) rfl
  have hAb := en_A (sz := s.heap.size) hD0 hb0
  have hD := hD0.self (sz := s.heap.size)
  generalize hAe : va_A [] s.heap.size = A at hD hAb hN0 ⊢
  have hA : ∀ q : Nat, s.heap.size ≤ q → A q := fun q h => by rw [← hAe]; exact Or.inr h
  have hS : va_S A s.heap s.heap [] := va_S.rf
  have hR := hR0
  have hl := lv_entry [.ref q, .ref pa, .int de] (n := 5) (Nat.le_of_ble_eq_true rfl)
  rw [lg_entry_eq]
  generalize (lg_sl [.ref q, .ref pa, .int de] ++ List.replicate (5 - (lg_sl [.ref q, .ref pa, .int de]).length) Slot.unset).toArray = ls at hl ⊢
  have hl : lv_has ls 5 [(0, .ref q), (1, .ref pa), (2, .int de)] := hl
  refine lv_aload_n hx hb dX14_scratches_0 rfl (lv_at hl 1 rfl) ?_
  have hPc := (hP.app hR).sub (ws' := [] ++ [(pa, .inr (21, [.int num, .ref pl, .int 0])), (pl, .inr (5, [.int 0, .ref en.2.2.1, .int 0]))]) [0, 1] rfl
  have hDc := (en_DD hD hDr hN0 hAb).sub (ws' := [] ++ [(pa, .inr (21, [.int num, .ref pl, .int 0])), (pl, .inr (5, [.int 0, .ref en.2.2.1, .int 0]))]) [0, 1] (by decide) rfl
  have hKc := hK.sub (tys' := []) [] rfl
  have hFc := va_free (wc := []) hD hS hA [] rfl
  refine va_callq (va_runV (As := []) (rest := []) ⟨hx, hb, hml, hown, hts⟩ (c_X15_top l dC dI b0 en s.heap.size pa pl num) (cwV 0 hts go_c_X14_scratches_0 rfl rfl rfl (by decide +kernel) ⟨Nat.le_of_ble_eq_true rfl, Nat.le_of_ble_eq_true rfl⟩) ⟨cP.blind, va_recv hK hR (ci := 21) (q0 := 0) rfl rfl, cP.use (en_z hb0 hS) (hE.on hAb hS) hPc hKc hDc trivial⟩ rfl rfl hl.1 rfl (lv_room (Nat.le_of_ble_eq_true rfl)) dX14_scratches_1 ⟨Nat.le_of_ble_eq_true rfl, Nat.le_of_ble_eq_true rfl⟩) hS (fun q _ h => hFc q h) hFc (fun r_1 u t H1 locs ht hvm hw hB hz1 hk1 hS => ?_)
  have hP1 : va_P (dC, dI) vwCl [] H1 := fun k q h => by simp at h
  have hD1 : va_D (va_A [] s.heap.size) [] := ⟨fun i j p q h => by simp at h, fun k q h => by simp at h⟩
  try dsimp only at hw
  obtain ⟨hP, hD⟩ := va_join (wr := []) (w1 := []) hP hD [] [] rfl rfl (by decide) (by decide) hk1 hFc hP1 hD1
  generalize H1 = H at hP hS ⊢
  have hP : va_P (dC, dI) vwCl [] H := hP
  have hD : va_D A [] := hD
  have hR := en_R hR0 hN0 hS
  refine W.widen (k := 0) (n := 0) (Nat.le_of_ble_eq_true rfl) (Nat.le_of_ble_eq_true rfl) ?_
  subst r_1
  refine lv_ifnonnullN hx hb dX14_scratches_4 ?_
  refine lv_iconst (v := (-1)) hx hb dX14_scratches_7 (by decide) ?_
  refine W.widen (k := 0) (n := 0) (Nat.le_of_ble_eq_true rfl) (Nat.le_of_ble_eq_true rfl) ?_
  exact W.iret (v := (-1)) hx hb hr (fun t ht hW => ⟨⟨(-1), (), rfl, (z_c_X14_scratches_159), trivial⟩, hS.F ht⟩) hS.2.2 dX14_scratches_8
theorem z_c_does_s_160 (fN : Nat → Int32) (x_1 : Int32) (a_0 : 0 ≤ fN 0) (a_1 : fN 0 < 48) (a_2 : x_1 = fN 0) : 0 ≤ x_1 := by first | rfl | grind
theorem z_c_does_s_161 (fN : Nat → Int32) (x_1 : Int32) (a_0 : 0 ≤ fN 0) (a_1 : fN 0 < 48) (a_2 : x_1 = fN 0) : x_1 < 48 := by first | rfl | grind
theorem z_c_does_s_162 (fN : Nat → Int32) (x_1 : Int32) (x_4 : Int32) (a_0 : 0 ≤ fN 0) (a_1 : fN 0 < 48) (a_2 : x_1 = fN 0) (a_3 : x_4 = fN 1) : (-1 : Int32) = -1 := by first | rfl | grind
def wo_c_does_s_w : List Cond := [Cond.fieldLink RX14 17 "UnderpaintModel$Picture" "at" "[LUnderpaintModel$Place;"]
def wo_c_does_s : List Cond := .code yX14_does cX14_does 4 (some .int) :: (wo_c_does_s_w ++ (u_ws RX12 TX12 2 ++ (u_ws RX14 TX14 6 ++ (wsV RX14 181 RX14 yX14_scratches wo_c_X14_scratches ++ List.nil))))
theorem gw_wo_c_does_s : wo_c_does_s.all goodWord = true := gw_c (by decide +kernel) (gw_a (by decide +kernel) (gw_a (by decide +kernel) (gw_a (by decide +kernel) (gw_a (gw_a (by decide +kernel) gw_wo_c_X14_scratches) rfl))))
theorem go_c_does_s_0 : GoodIn wo_c_does_s (wsV RX14 181 RX14 yX14_scratches wo_c_X14_scratches) := goodIn_sub (fun _ h => List.mem_cons_of_mem _ (List.mem_append_right _ (List.mem_append_right _ (List.mem_append_right _ (List.mem_append_left _ h))))) (gw_a (by decide +kernel) gw_wo_c_X14_scratches)
set_option maxHeartbeats 4000000 in
set_option maxRecDepth 100000 in
/-- Picture.does(a scratch) -/
theorem c_does_s (l : Launch) (dC : Nat → ClassId) (dI : Nat → Nat → Nat) (b0 : Nat) (en : EnT) (sz : Nat) (q ap sc mm c0 : Nat) (kQ : ClassId) (g : Nat → Option Nat) (ac na : Nat) (kA : ClassId) (fN : Nat → Int32) (h0 : 0 ≤ fN 0) (h1 : fN 0 < 48) (hbc : b0 ≤ c0) (hcs : c0 ≤ sz) (hWc : ∀ (k9 : Nat) (q9 : Nat × va_E), ([(q, .inr (20, [.ref ap, .ref sc, .int 1600, .int 0, .int 0, .ref mm])), (ap, .inl (kQ, 48, .inr (.inr (.inr (.inr g))))), (sc, .inr (5, [.int 1, .ref en.2.2.1, .int 0]))] : va_W)[k9]? = some q9 → c0 ≤ q9.1) (hRc : ∀ (k9 : Nat) (q9 : Nat × va_E), ([(ac, .inr (18, [.int 115, .ref na])), (na, .inl (kA, 2, .inl fN))] : va_W)[k9]? = some q9 → q9.1 < c0) : Met l yX14_does wo_c_does_s ({ frames := 3, cells := 0, slots := 0, locals := 64 } : Room) (cP b0 en (dC, dI) [(kQ, .object "UnderpaintModel$Place"), (kA, .int)] [(q, .inr (20, [.ref ap, .ref sc, .int 1600, .int 0, .int 0, .ref mm])), (ap, .inl (kQ, 48, .inr (.inr (.inr (.inr g))))), (sc, .inr (5, [.int 1, .ref en.2.2.1, .int 0]))] [(ac, .inr (18, [.int 115, .ref na])), (na, .inl (kA, 2, .inl fN))] sz (fun U => FamP (dC, dI) (vN c0 [q, ap, sc]) en.2.2.1 g U) [.ref q, .ref ac]) (va_Qi (fun (r : Int32) (u : Unit) => r = -1) (fun u t => cB (dC, dI) [] [] (vC c0) (fun _ => True) t) (vC c0)) 0 0 (vC c0) := by
  refine Met.ofW (cc := cX14_does) (maxL := 4) (ret := (some .int)) (by decide) rfl ?_
  intro p e s m args below meth c s₁ B hml hv
  obtain ⟨rfl, hsz, hb0, hE, hPP, hK, hDD, hF0⟩ := hv
  have hx := B.exec
  have hb := B.bytes
  have hr := B.returns
  have hts := atoms_spec (ws := wo_c_does_s) B.pre
  have hown : s.vm.findClass RX14 = some m.cls := findClass_of_methodNamed B.named
  have hlocks := B.notSynchronized
  subst hsz
  have hN0 : ∀ (k9 : Nat) (q9 : Nat × va_E), ([(ac, .inr (18, [.int 115, .ref na])), (na, .inl (kA, 2, .inl fN))] : va_W)[k9]? = some q9 → ¬ vC c0 q9.1 := fun k q h => Nat.not_le.mpr (hRc k q h)
  have hP : va_P (dC, dI) vwCl [(q, .inr (20, [.ref ap, .ref sc, .int 1600, .int 0, .int 0, .ref mm])), (ap, .inl (kQ, 48, .inr (.inr (.inr (.inr g))))), (sc, .inr (5, [.int 1, .ref en.2.2.1, .int 0]))] s.heap := hPP.sub [0, 1, 2] rfl
  have hR0 : va_P (dC, dI) vwCl [(ac, .inr (18, [.int 115, .ref na])), (na, .inl (kA, 2, .inl fN))] s.heap := hPP.sub [3, 4] rfl
  have hD0 : va_D (fun q => b0 ≤ q) [(q, .inr (20, [.ref ap, .ref sc, .int 1600, .int 0, .int 0, .ref mm])), (ap, .inl (kQ, 48, .inr (.inr (.inr (.inr g))))), (sc, .inr (5, [.int 1, .ref en.2.2.1, .int 0]))] := hDD.sub [0, 1, 2] (by decide) rfl
  have hDr : va_D (fun q => b0 ≤ q) [(ac, .inr (18, [.int 115, .ref na])), (na, .inl (kA, 2, .inl fN))] := hDD.sub [3, 4] (by decide) rfl
  have hAb : ∀ q, vC c0 q → b0 ≤ q := fun q h => Nat.le_trans hbc h
  have hD : va_D (vC c0) [(q, .inr (20, [.ref ap, .ref sc, .int 1600, .int 0, .int 0, .ref mm])), (ap, .inl (kQ, 48, .inr (.inr (.inr (.inr g))))), (sc, .inr (5, [.int 1, .ref en.2.2.1, .int 0]))] := ⟨hD0.1, hWc⟩
  have hAc : ∀ q : Nat, c0 ≤ q → vC c0 q := fun q h => h
  have hA0 : ∀ q : Nat, s.heap.size ≤ q → vC c0 q := fun q h => Nat.le_trans hcs h
  generalize hAe : vC c0 = A at hD hAb hN0 hAc hA0 ⊢
  have hA : ∀ q : Nat, s.heap.size ≤ q → A q := hA0
  have hS : va_S A s.heap s.heap [] := va_S.rf
  have hR := hR0
  have hl := lv_entry [.ref q, .ref ac] (n := 4) (Nat.le_of_ble_eq_true rfl)
  rw [lg_entry_eq]
  generalize (lg_sl [.ref q, .ref ac] ++ List.replicate (4 - (lg_sl [.ref q, .ref ac]).length) Slot.unset).toArray = ls at hl ⊢
  have hl : lv_has ls 4 [(0, .ref q), (1, .ref ac)] := hl
  have hge_q : c0 ≤ q := (hWc 0 _ rfl)
  have hge_ap : c0 ≤ ap := (hWc 1 _ rfl)
  have hge_sc : c0 ≤ sc := (hWc 2 _ rfl)
  have hlt_ac : ac < c0 := (hRc 0 _ rfl)
  have hlt_na : na < c0 := (hRc 1 _ rfl)
  have hG := hF0
  have hR0b := hR0
  have hDrb := hDr
  have hN0b := hN0
  refine lv_aload_n hx hb dX14_does_0 rfl (lv_at hl 1 rfl) ?_
  refine va_getN (D := (dC, dI)) (ci := 18) (v := .ref na) (C := RX12) (T := TX12) (N := 2) hx hb hts (by decide +kernel) hown hK hR 0 rfl rfl 1 (by decide) (va_Nw.use rfl (hE.nf ("UnderpaintModel$Picture", 161, "UnderpaintModel$Act", "n", "[I", "UnderpaintModel") (by decide +kernel))) (fun _ h9 => h9) rfl dX14_does_1 ?_
  refine lv_astore_n (lv' := [(2, .ref na), (0, .ref q), (1, .ref ac)]) hx hb dX14_does_4 rfl hl (by decide) rfl (fun ls hl => ?_)
  refine lv_aload_n hx hb dX14_does_5 rfl (lv_at hl 2 rfl) ?_
  refine va_getN (D := (dC, dI)) (ci := 18) (v := .int 115) (C := RX12) (T := TX12) (N := 2) hx hb hts (by decide +kernel) hown hK hR 0 rfl rfl 0 (by decide) (va_Nw.use rfl (hE.nf ("UnderpaintModel$Picture", 167, "UnderpaintModel$Act", "what", "C", "UnderpaintModel") (by decide +kernel))) (fun _ h9 => h9) rfl dX14_does_6 ?_
  refine lv_tableIn (off := 149) (tgt := 158) hx hb dX14_does_9 (by decide) (by decide) (by decide) (by decide) ?_
  refine lv_aload_n hx hb dX14_does_158 rfl (lv_at hl 1 rfl) ?_
  refine lv_aload_n hx hb dX14_does_159 rfl (lv_at hl 1 rfl) ?_
  refine va_get (D := (dC, dI)) (ci := 20) (v := .ref ap) (C := RX14) (T := TX14) (N := 6) hx hb hts (by decide +kernel) hown hK hP 0 rfl rfl 0 (by decide) (hts (.fieldLink RX14 17 "UnderpaintModel$Picture" "at" "[LUnderpaintModel$Place;") (by decide +kernel)) (fun _ h9 => h9) rfl dX14_does_160 ?_
  refine lv_aload_n hx hb dX14_does_163 rfl (lv_at hl 0 rfl) ?_
  refine lv_iconst (v := 0) hx hb dX14_does_164 (by decide) ?_
  refine va_iald hx hb hK hR 1 1 rfl rfl (vp_in_nI (by decide : 0 < 2) (by decide)) dX14_does_165 ?_
  refine lv_topi (fun x_1 ex_1 => ?_)
  obtain ⟨i_2, hi_i_2, hx_i_2⟩ := (ix48 (z_c_does_s_160 fN x_1 h0 h1 ex_1) (z_c_does_s_161 fN x_1 h0 h1 ex_1))
  refine va_aldq hx hb hK hP 1 0 rfl rfl (pl_in hi_i_2 hx_i_2) dX14_does_166 ?_
  obtain ⟨ap_3, lp_3, hg_ap_3, hup_3, hvp_3, hnp_3, hmp_3, hdp_3⟩ := hG i_2 hi_i_2
  refine lv_topv (w := .ref ap_3) (by rw [pl_cl hi_i_2 hx_i_2, hg_ap_3]; rfl) ?_
  have hc0_ap_3 : c0 ≤ ap_3 := hnp_3.1
  have hP := hP.app (va1 hup_3)
  have hD := vD_push (e := .inr (21, [.int (nI i_2), .ref lp_3, .int 0])) hD (hAc ap_3 hnp_3.1) (nR (fun z9 => by have g1 := hnp_3.2; simp only [List.map_cons, List.map_nil, List.cons_append, List.nil_append, List.mem_cons, List.not_mem_nil, or_false, not_or] at g1 z9; omega))
  have hc0_lp_3 : c0 ≤ lp_3 := hmp_3.1
  have hP := hP.app (va1 hvp_3)
  have hD := vD_push (e := .inr (5, [.int 0, .ref en.2.2.1, .int 0])) hD (hAc lp_3 hmp_3.1) (nR (fun z9 => by have g1 := hmp_3.2; have g7 := hdp_3; simp only [List.map_cons, List.map_nil, List.cons_append, List.nil_append, List.mem_cons, List.not_mem_nil, or_false, not_or] at g1 z9; omega))
  have hP : va_P (dC, dI) vwCl [(q, .inr (20, [.ref ap, .ref sc, .int 1600, .int 0, .int 0, .ref mm])), (ap, .inl (kQ, 48, .inr (.inr (.inr (.inr g))))), (sc, .inr (5, [.int 1, .ref en.2.2.1, .int 0])), (ap_3, .inr (21, [.int (nI i_2), .ref lp_3, .int 0])), (lp_3, .inr (5, [.int 0, .ref en.2.2.1, .int 0]))] s.heap := hP
  have hD : va_D A [(q, .inr (20, [.ref ap, .ref sc, .int 1600, .int 0, .int 0, .ref mm])), (ap, .inl (kQ, 48, .inr (.inr (.inr (.inr g))))), (sc, .inr (5, [.int 1, .ref en.2.2.1, .int 0])), (ap_3, .inr (21, [.int (nI i_2), .ref lp_3, .int 0])), (lp_3, .inr (5, [.int 0, .ref en.2.2.1, .int 0]))] := hD
  refine lv_aload_n hx hb dX14_does_167 rfl (lv_at hl 0 rfl) ?_
  refine lv_iconst (v := 1) hx hb dX14_does_168 (by decide) ?_
  refine va_iald hx hb hK hR 1 1 rfl rfl (vp_in_nI (by decide : 1 < 2) (by decide)) dX14_does_169 ?_
  refine lv_topi (fun x_4 ex_4 => ?_)
  have hPc := (hP.app hR).sub (ws' := [] ++ [(ap_3, .inr (21, [.int (nI i_2), .ref lp_3, .int 0])), (lp_3, .inr (5, [.int 0, .ref en.2.2.1, .int 0]))]) [3, 4] rfl
  have hDc := (en_DD hD hDr hN0 hAb).sub (ws' := [] ++ [(ap_3, .inr (21, [.int (nI i_2), .ref lp_3, .int 0])), (lp_3, .inr (5, [.int 0, .ref en.2.2.1, .int 0]))]) [3, 4] (by decide) rfl
  have hKc := hK.sub (tys' := []) [] rfl
  have hFc := va_free (wc := []) hD hS hA [] rfl
  refine va_calli (va_runV (As := [.ref ap_3, .int x_4]) (rest := []) ⟨hx, hb, hml, hown, hts⟩ (c_X14_scratches l dC dI b0 en s.heap.size q ap_3 lp_3 (nI i_2) x_4) (cwV 2 hts go_c_does_s_0 rfl rfl rfl (by decide +kernel) ⟨Nat.le_of_ble_eq_true rfl, Nat.le_of_ble_eq_true rfl⟩) ⟨cP.blind, va_recv hK hP (ci := 20) (q0 := 0) rfl rfl, cP.use (en_z hb0 hS) (hE.on hAb hS) hPc hKc hDc trivial⟩ rfl rfl hl.1 rfl (lv_room (Nat.le_of_ble_eq_true rfl)) dX14_does_170 ⟨Nat.le_of_ble_eq_true rfl, Nat.le_of_ble_eq_true rfl⟩) hS (fun q _ h => hFc q h) hFc (fun r_5 u t H1 locs ht hvm hw hB hz1 hk1 hS => ?_)
  have hP1 : va_P (dC, dI) vwCl [] H1 := fun k q h => by simp at h
  have hD1 : va_D (va_A [] s.heap.size) [] := ⟨fun i j p q h => by simp at h, fun k q h => by simp at h⟩
  try dsimp only at hw
  obtain ⟨hP, hD⟩ := va_join (wr := [(q, .inr (20, [.ref ap, .ref sc, .int 1600, .int 0, .int 0, .ref mm])), (ap, .inl (kQ, 48, .inr (.inr (.inr (.inr g))))), (sc, .inr (5, [.int 1, .ref en.2.2.1, .int 0])), (ap_3, .inr (21, [.int (nI i_2), .ref lp_3, .int 0])), (lp_3, .inr (5, [.int 0, .ref en.2.2.1, .int 0]))]) (w1 := []) hP hD [] [0, 1, 2, 3, 4] rfl rfl (by decide) (by decide) hk1 hFc hP1 hD1
  have hG := hG.hq (hq_.of (ws := []) hk1)
  generalize H1 = H at hP hS hG ⊢
  have hP : va_P (dC, dI) vwCl [(q, .inr (20, [.ref ap, .ref sc, .int 1600, .int 0, .int 0, .ref mm])), (ap, .inl (kQ, 48, .inr (.inr (.inr (.inr g))))), (sc, .inr (5, [.int 1, .ref en.2.2.1, .int 0])), (ap_3, .inr (21, [.int (nI i_2), .ref lp_3, .int 0])), (lp_3, .inr (5, [.int 0, .ref en.2.2.1, .int 0]))] H := hP
  have hD : va_D A [(q, .inr (20, [.ref ap, .ref sc, .int 1600, .int 0, .int 0, .ref mm])), (ap, .inl (kQ, 48, .inr (.inr (.inr (.inr g))))), (sc, .inr (5, [.int 1, .ref en.2.2.1, .int 0])), (ap_3, .inr (21, [.int (nI i_2), .ref lp_3, .int 0])), (lp_3, .inr (5, [.int 0, .ref en.2.2.1, .int 0]))] := hD
  have hR := en_R hR0 hN0 hS
  refine W.widen (k := 0) (n := 0) (Nat.le_of_ble_eq_true rfl) (Nat.le_of_ble_eq_true rfl) ?_
  subst r_5
  refine W.widen (k := 0) (n := 0) (Nat.le_of_ble_eq_true rfl) (Nat.le_of_ble_eq_true rfl) ?_
  exact W.iret (v := (-1)) hx hb hr (fun t ht hW => ⟨⟨(-1), (), rfl, (z_c_does_s_162 fN x_1 x_4 h0 h1 ex_1 ex_4), cB.mk ht hW (hP.sub [] rfl) (hK.sub [] rfl) (hD.sub [] (by decide) rfl) (trivial)⟩, hS.F ht⟩) hS.2.2 dX14_does_173
theorem z_c_does_g_163 (fN : Nat → Int32) (x_1 : Int32) (a_0 : 0 ≤ fN 0) (a_1 : fN 0 < 48) (a_2 : x_1 = fN 0) : (0 : Int32) = 0 := by first | rfl | grind
def wo_c_does_g_w : List Cond := [Cond.fieldLink RX14 17 "UnderpaintModel$Picture" "at" "[LUnderpaintModel$Place;", Cond.methodLink RX14 99 Lib.Math.max.name, Cond.static Lib.Math.max.name, Cond.initialized "java/lang/Math", Cond.code Lib.Math.max.name Lib.Math.max.code 2 (some .int)]
def wo_c_does_g : List Cond := .code yX14_does cX14_does 4 (some .int) :: (wo_c_does_g_w ++ (u_ws RX12 TX12 2 ++ (u_ws RX14 TX14 6 ++ (u_ws RX15 TX15 3 ++ List.nil))))
theorem gw_wo_c_does_g : wo_c_does_g.all goodWord = true := gw_c (by decide +kernel) (gw_a (by decide +kernel) (gw_a (by decide +kernel) (gw_a (by decide +kernel) (gw_a (by decide +kernel) rfl))))
set_option maxHeartbeats 4000000 in
set_option maxRecDepth 100000 in
/-- Picture.does(glue) -/
theorem c_does_g (l : Launch) (dC : Nat → ClassId) (dI : Nat → Nat → Nat) (b0 : Nat) (en : EnT) (sz : Nat) (q ap sc mm c0 : Nat) (kQ : ClassId) (g : Nat → Option Nat) (ac na : Nat) (kA : ClassId) (fN : Nat → Int32) (h0 : 0 ≤ fN 0) (h1 : fN 0 < 48) (hbc : b0 ≤ c0) (hcs : c0 ≤ sz) (hWc : ∀ (k9 : Nat) (q9 : Nat × va_E), ([(q, .inr (20, [.ref ap, .ref sc, .int 1600, .int 0, .int 0, .ref mm])), (ap, .inl (kQ, 48, .inr (.inr (.inr (.inr g))))), (sc, .inr (5, [.int 1, .ref en.2.2.1, .int 0]))] : va_W)[k9]? = some q9 → c0 ≤ q9.1) (hRc : ∀ (k9 : Nat) (q9 : Nat × va_E), ([(ac, .inr (18, [.int 103, .ref na])), (na, .inl (kA, 1, .inl fN))] : va_W)[k9]? = some q9 → q9.1 < c0) : Met l yX14_does wo_c_does_g ({ frames := 1, cells := 0, slots := 0, locals := 40 } : Room) (cP b0 en (dC, dI) [(kQ, .object "UnderpaintModel$Place"), (kA, .int)] [(q, .inr (20, [.ref ap, .ref sc, .int 1600, .int 0, .int 0, .ref mm])), (ap, .inl (kQ, 48, .inr (.inr (.inr (.inr g))))), (sc, .inr (5, [.int 1, .ref en.2.2.1, .int 0]))] [(ac, .inr (18, [.int 103, .ref na])), (na, .inl (kA, 1, .inl fN))] sz (fun U => FamP (dC, dI) (vN c0 [q, ap, sc]) en.2.2.1 g U) [.ref q, .ref ac]) (va_Qi (fun (r : Int32) (u : Unit) => r = 0) (fun u t => cB (dC, dI) [] [] (vC c0) (fun _ => True) t) (vC c0)) 0 0 (vC c0) := by
  refine Met.ofW (cc := cX14_does) (maxL := 4) (ret := (some .int)) (by decide) rfl ?_
  intro p e s m args below meth c s₁ B hml hv
  obtain ⟨rfl, hsz, hb0, hE, hPP, hK, hDD, hF0⟩ := hv
  have hx := B.exec
  have hb := B.bytes
  have hr := B.returns
  have hts := atoms_spec (ws := wo_c_does_g) B.pre
  have hown : s.vm.findClass RX14 = some m.cls := findClass_of_methodNamed B.named
  have hlocks := B.notSynchronized
  subst hsz
  have hN0 : ∀ (k9 : Nat) (q9 : Nat × va_E), ([(ac, .inr (18, [.int 103, .ref na])), (na, .inl (kA, 1, .inl fN))] : va_W)[k9]? = some q9 → ¬ vC c0 q9.1 := fun k q h => Nat.not_le.mpr (hRc k q h)
  have hP : va_P (dC, dI) vwCl [(q, .inr (20, [.ref ap, .ref sc, .int 1600, .int 0, .int 0, .ref mm])), (ap, .inl (kQ, 48, .inr (.inr (.inr (.inr g))))), (sc, .inr (5, [.int 1, .ref en.2.2.1, .int 0]))] s.heap := hPP.sub [0, 1, 2] rfl
  have hR0 : va_P (dC, dI) vwCl [(ac, .inr (18, [.int 103, .ref na])), (na, .inl (kA, 1, .inl fN))] s.heap := hPP.sub [3, 4] rfl
  have hD0 : va_D (fun q => b0 ≤ q) [(q, .inr (20, [.ref ap, .ref sc, .int 1600, .int 0, .int 0, .ref mm])), (ap, .inl (kQ, 48, .inr (.inr (.inr (.inr g))))), (sc, .inr (5, [.int 1, .ref en.2.2.1, .int 0]))] := hDD.sub [0, 1, 2] (by decide) rfl
  have hDr : va_D (fun q => b0 ≤ q) [(ac, .inr (18, [.int 103, .ref na])), (na, .inl (kA, 1, .inl fN))] := hDD.sub [3, 4] (by decide) rfl
  have hAb : ∀ q, vC c0 q → b0 ≤ q := fun q h => Nat.le_trans hbc h
  have hD : va_D (vC c0) [(q, .inr (20, [.ref ap, .ref sc, .int 1600, .int 0, .int 0, .ref mm])), (ap, .inl (kQ, 48, .inr (.inr (.inr (.inr g))))), (sc, .inr (5, [.int 1, .ref en.2.2.1, .int 0]))] := ⟨hD0.1, hWc⟩
  have hAc : ∀ q : Nat, c0 ≤ q → vC c0 q := fun q h => h
  have hA0 : ∀ q : Nat, s.heap.size ≤ q → vC c0 q := fun q h => Nat.le_trans hcs h
  generalize hAe : vC c0 = A at hD hAb hN0 hAc hA0 ⊢
  have hA : ∀ q : Nat, s.heap.size ≤ q → A q := hA0
  have hS : va_S A s.heap s.heap [] := va_S.rf
  have hR := hR0
  have hl := lv_entry [.ref q, .ref ac] (n := 4) (Nat.le_of_ble_eq_true rfl)
  rw [lg_entry_eq]
  generalize (lg_sl [.ref q, .ref ac] ++ List.replicate (4 - (lg_sl [.ref q, .ref ac]).length) Slot.unset).toArray = ls at hl ⊢
  have hl : lv_has ls 4 [(0, .ref q), (1, .ref ac)] := hl
  have hge_q : c0 ≤ q := (hWc 0 _ rfl)
  have hge_ap : c0 ≤ ap := (hWc 1 _ rfl)
  have hge_sc : c0 ≤ sc := (hWc 2 _ rfl)
  have hlt_ac : ac < c0 := (hRc 0 _ rfl)
  have hlt_na : na < c0 := (hRc 1 _ rfl)
  have hG := hF0
  have hR0b := hR0
  have hDrb := hDr
  have hN0b := hN0
  refine lv_aload_n hx hb dX14_does_0 rfl (lv_at hl 1 rfl) ?_
  refine va_getN (D := (dC, dI)) (ci := 18) (v := .ref na) (C := RX12) (T := TX12) (N := 2) hx hb hts (by decide +kernel) hown hK hR 0 rfl rfl 1 (by decide) (va_Nw.use rfl (hE.nf ("UnderpaintModel$Picture", 161, "UnderpaintModel$Act", "n", "[I", "UnderpaintModel") (by decide +kernel))) (fun _ h9 => h9) rfl dX14_does_1 ?_
  refine lv_astore_n (lv' := [(2, .ref na), (0, .ref q), (1, .ref ac)]) hx hb dX14_does_4 rfl hl (by decide) rfl (fun ls hl => ?_)
  refine lv_aload_n hx hb dX14_does_5 rfl (lv_at hl 2 rfl) ?_
  refine va_getN (D := (dC, dI)) (ci := 18) (v := .int 103) (C := RX12) (T := TX12) (N := 2) hx hb hts (by decide +kernel) hown hK hR 0 rfl rfl 0 (by decide) (va_Nw.use rfl (hE.nf ("UnderpaintModel$Picture", 167, "UnderpaintModel$Act", "what", "C", "UnderpaintModel") (by decide +kernel))) (fun _ h9 => h9) rfl dX14_does_6 ?_
  refine lv_tableIn (off := 252) (tgt := 261) hx hb dX14_does_9 (by decide) (by decide) (by decide) (by decide) ?_
  refine lv_aload_n hx hb dX14_does_261 rfl (lv_at hl 1 rfl) ?_
  refine va_get (D := (dC, dI)) (ci := 20) (v := .ref ap) (C := RX14) (T := TX14) (N := 6) hx hb hts (by decide +kernel) hown hK hP 0 rfl rfl 0 (by decide) (hts (.fieldLink RX14 17 "UnderpaintModel$Picture" "at" "[LUnderpaintModel$Place;") (by decide +kernel)) (fun _ h9 => h9) rfl dX14_does_262 ?_
  refine lv_aload_n hx hb dX14_does_265 rfl (lv_at hl 0 rfl) ?_
  refine lv_iconst (v := 0) hx hb dX14_does_266 (by decide) ?_
  refine va_iald hx hb hK hR 1 1 rfl rfl (vp_in_nI (by decide : 0 < 1) (by decide)) dX14_does_267 ?_
  refine lv_topi (fun x_1 ex_1 => ?_)
  obtain ⟨i_2, hi_i_2, hx_i_2⟩ := (ix48 (z_c_does_s_160 fN x_1 h0 h1 ex_1) (z_c_does_s_161 fN x_1 h0 h1 ex_1))
  refine va_aldq hx hb hK hP 1 0 rfl rfl (pl_in hi_i_2 hx_i_2) dX14_does_268 ?_
  obtain ⟨ap_3, lp_3, hg_ap_3, hup_3, hvp_3, hnp_3, hmp_3, hdp_3⟩ := hG i_2 hi_i_2
  refine lv_topv (w := .ref ap_3) (by rw [pl_cl hi_i_2 hx_i_2, hg_ap_3]; rfl) ?_
  have hc0_ap_3 : c0 ≤ ap_3 := hnp_3.1
  have hP := hP.app (va1 hup_3)
  have hD := vD_push (e := .inr (21, [.int (nI i_2), .ref lp_3, .int 0])) hD (hAc ap_3 hnp_3.1) (nR (fun z9 => by have g1 := hnp_3.2; simp only [List.map_cons, List.map_nil, List.cons_append, List.nil_append, List.mem_cons, List.not_mem_nil, or_false, not_or] at g1 z9; omega))
  have hc0_lp_3 : c0 ≤ lp_3 := hmp_3.1
  have hP := hP.app (va1 hvp_3)
  have hD := vD_push (e := .inr (5, [.int 0, .ref en.2.2.1, .int 0])) hD (hAc lp_3 hmp_3.1) (nR (fun z9 => by have g1 := hmp_3.2; have g7 := hdp_3; simp only [List.map_cons, List.map_nil, List.cons_append, List.nil_append, List.mem_cons, List.not_mem_nil, or_false, not_or] at g1 z9; omega))
  have hP : va_P (dC, dI) vwCl [(q, .inr (20, [.ref ap, .ref sc, .int 1600, .int 0, .int 0, .ref mm])), (ap, .inl (kQ, 48, .inr (.inr (.inr (.inr g))))), (sc, .inr (5, [.int 1, .ref en.2.2.1, .int 0])), (ap_3, .inr (21, [.int (nI i_2), .ref lp_3, .int 0])), (lp_3, .inr (5, [.int 0, .ref en.2.2.1, .int 0]))] s.heap := hP
  have hD : va_D A [(q, .inr (20, [.ref ap, .ref sc, .int 1600, .int 0, .int 0, .ref mm])), (ap, .inl (kQ, 48, .inr (.inr (.inr (.inr g))))), (sc, .inr (5, [.int 1, .ref en.2.2.1, .int 0])), (ap_3, .inr (21, [.int (nI i_2), .ref lp_3, .int 0])), (lp_3, .inr (5, [.int 0, .ref en.2.2.1, .int 0]))] := hD
  refine lv_iconst (v := 0) hx hb dX14_does_269 (by decide) ?_
  refine lv_aload_n hx hb dX14_does_270 rfl (lv_at hl 1 rfl) ?_
  refine va_get (D := (dC, dI)) (ci := 20) (v := .ref ap) (C := RX14) (T := TX14) (N := 6) hx hb hts (by decide +kernel) hown hK hP 0 rfl rfl 0 (by decide) (hts (.fieldLink RX14 17 "UnderpaintModel$Picture" "at" "[LUnderpaintModel$Place;") (by decide +kernel)) (fun _ h9 => h9) rfl dX14_does_271 ?_
  refine lv_aload_n hx hb dX14_does_274 rfl (lv_at hl 0 rfl) ?_
  refine lv_iconst (v := 0) hx hb dX14_does_275 (by decide) ?_
  refine va_iald hx hb hK hR 1 1 rfl rfl (vp_in_nI (by decide : 0 < 1) (by decide)) dX14_does_276 ?_
  refine lv_topi (fun x_4 ex_4 => ?_)
  obtain rfl : x_1 = x_4 := ex_1.trans (show x_4 = fN _ from ex_4).symm
  refine va_aldq hx hb hK hP 1 0 rfl rfl (pl_in hi_i_2 hx_i_2) dX14_does_277 ?_
  refine lv_topv (w := .ref ap_3) (by rw [pl_cl hi_i_2 hx_i_2, hg_ap_3]; rfl) ?_
  refine va_getN (D := (dC, dI)) (ci := 21) (v := .int 0) (C := RX15) (T := TX15) (N := 3) hx hb hts (by decide +kernel) hown hK hP 3 rfl rfl 2 (by decide) (va_Nw.use rfl (hE.nf ("UnderpaintModel$Picture", 44, "UnderpaintModel$Place", "tired", "I", "UnderpaintModel") (by decide +kernel))) (fun _ h9 => h9) rfl dX14_does_278 ?_
  refine lv_bipush (v := 30) hx hb dX14_does_281 (by decide) ?_
  refine lv_isub hx hb dX14_does_283 ?_
  refine lv_topi (fun x_5 ex_5 => ?_)
  obtain rfl : x_5 = (-30) := ex_5.trans (by decide)
  refine va_mmax hx hb (hml.trans hl.1.symm) hown (hts (.methodLink RX14 99 Lib.Math.max.name) (by decide +kernel)) (hts (.static Lib.Math.max.name) (by decide +kernel)) (hts (.initialized "java/lang/Math") (by decide +kernel)) (hts (.code Lib.Math.max.name Lib.Math.max.code 2 (some .int)) (by decide +kernel)) (Nat.le_of_ble_eq_true rfl) (Nat.le_of_ble_eq_true rfl) (Nat.le_of_ble_eq_true rfl) (Nat.le_of_ble_eq_true rfl) dX14_does_284 ?_
  refine lv_topi (fun x_6 ex_6 => ?_)
  obtain rfl : x_6 = 0 := ex_6.trans (by decide)
  refine va_putSN (D := (dC, dI)) (ci := 21) (v := .int 0) (ty := .int) (C := RX15) (T := TX15) (N := 3) hx hb hts (by decide +kernel) hown hK (hP 3 _ rfl) (hD.2 3 _ rfl) hS rfl 2 (by decide) (va_Nw.use rfl (hE.nf ("UnderpaintModel$Picture", 44, "UnderpaintModel$Place", "tired", "I", "UnderpaintModel") (by decide +kernel))) (fun _ h9 => h9) rfl rfl (by decide +kernel) (by first | rfl | decide +kernel) (by first | rfl | decide +kernel) dX14_does_287 (fun locs hS => ?_)
  refine lv_aload_n hx hb dX14_does_290 rfl (lv_at hl 1 rfl) ?_
  refine va_get (D := (dC, dI)) (ci := 20) (v := .ref ap) (C := RX14) (T := TX14) (N := 6) hx hb hts (by decide +kernel) hown hK hP 0 rfl rfl 0 (by decide) (hts (.fieldLink RX14 17 "UnderpaintModel$Picture" "at" "[LUnderpaintModel$Place;") (by decide +kernel)) (fun _ h9 => h9) rfl dX14_does_291 ?_
  refine lv_aload_n hx hb dX14_does_294 rfl (lv_at hl 0 rfl) ?_
  refine lv_iconst (v := 0) hx hb dX14_does_295 (by decide) ?_
  refine va_iald hx hb hK hR 1 1 rfl rfl (vp_in_nI (by decide : 0 < 1) (by decide)) dX14_does_296 ?_
  refine lv_topi (fun x_7 ex_7 => ?_)
  obtain rfl : x_1 = x_7 := ex_1.trans (show x_7 = fN _ from ex_7).symm
  refine va_aldq hx hb hK hP 1 0 rfl rfl (pl_in hi_i_2 hx_i_2) dX14_does_297 ?_
  refine lv_topv (w := .ref ap_3) (by rw [pl_cl hi_i_2 hx_i_2, hg_ap_3]; rfl) ?_
  refine va_getN (D := (dC, dI)) (ci := 21) (v := .int 0) (C := RX15) (T := TX15) (N := 3) hx hb hts (by decide +kernel) hown hK hP 3 rfl rfl 2 (by decide) (va_Nw.use rfl (hE.nf ("UnderpaintModel$Picture", 44, "UnderpaintModel$Place", "tired", "I", "UnderpaintModel") (by decide +kernel))) (fun _ h9 => h9) rfl dX14_does_298 ?_
  refine W.widen (k := 0) (n := 0) (Nat.le_of_ble_eq_true rfl) (Nat.le_of_ble_eq_true rfl) ?_
  exact W.iret (v := 0) hx hb hr (fun t ht hW => ⟨⟨0, (), rfl, (z_c_does_g_163 fN x_1 h0 h1 ex_1), cB.mk ht hW (hP.sub [] rfl) (hK.sub [] rfl) (hD.sub [] (by decide) rfl) (trivial)⟩, hS.F ht⟩) hS.2.2 dX14_does_301
theorem z_c_X14_lends_164   : (0 : Int32) = 0 := by first | decide +kernel | grind
def wo_c_X14_lends_w : List Cond := []
def wo_c_X14_lends : List Cond := .code yX14_lends cX14_lends 8 (some .int) :: (wo_c_X14_lends_w ++ List.nil)
theorem gw_wo_c_X14_lends : wo_c_X14_lends.all goodWord = true := gw_c (by decide +kernel) (gw_a (by decide +kernel) rfl)
set_option maxHeartbeats 4000000 in
set_option maxRecDepth 100000 in
/-- Picture.lends without legs -/
theorem c_X14_lends (l : Launch) (dC : Nat → ClassId) (dI : Nat → Nat → Nat) (b0 : Nat) (en : EnT) (sz : Nat) (q na : Nat) (kA : ClassId) (fN : Nat → Int32) : Met l yX14_lends wo_c_X14_lends ({ frames := 0, cells := 0, slots := 0, locals := 0 } : Room) (cP b0 en (dC, dI) [(kA, .int)] [] [(na, .inl (kA, 0, .inl fN))] sz (fun _ => True) [.ref q, .ref na]) (va_Qi (fun (r : Int32) (_ : Unit) => r = 0) (fun _ _ => True) (va_A [] sz)) 0 0 (va_A [] sz) := by
  refine Met.ofW (cc := cX14_lends) (maxL := 8) (ret := (some .int)) (by decide) rfl ?_
  intro p e s m args below meth c s₁ B hml hv
  obtain ⟨rfl, hsz, hb0, hE, hPP, hK, hDD, hF0⟩ := hv
  have hx := B.exec
  have hb := B.bytes
  have hr := B.returns
  have hts := atoms_spec (ws := wo_c_X14_lends) B.pre
  have hown : s.vm.findClass RX14 = some m.cls := findClass_of_methodNamed B.named
  have hlocks := B.notSynchronized
  subst hsz
  have hN0 := en_N hPP hDD rfl
  have hP : va_P (dC, dI) vwCl [] s.heap := hPP.sub [] rfl
  have hR0 : va_P (dC, dI) vwCl [(na, .inl (kA, 0, .inl fN))] s.heap := hPP.sub [0] rfl
  have hD0 : va_D (fun q => b0 ≤ q) [] := hDD.sub [] (by decide) rfl
  have hDr : va_D (fun q => b0 ≤ q) [(na, .inl (kA, 0, .inl fN))] := hDD.sub [0] (by decide) rfl
  have hAb := en_A (sz := s.heap.size) hD0 hb0
  have hD := hD0.self (sz := s.heap.size)
  generalize hAe : va_A [] s.heap.size = A at hD hAb hN0 ⊢
  have hA : ∀ q : Nat, s.heap.size ≤ q → A q := fun q h => by rw [← hAe]; exact Or.inr h
  have hS : va_S A s.heap s.heap [] := va_S.rf
  have hR := hR0
  have hl := lv_entry [.ref q, .ref na] (n := 8) (Nat.le_of_ble_eq_true rfl)
  rw [lg_entry_eq]
  generalize (lg_sl [.ref q, .ref na] ++ List.replicate (8 - (lg_sl [.ref q, .ref na]).length) Slot.unset).toArray = ls at hl ⊢
  have hl : lv_has ls 8 [(0, .ref q), (1, .ref na)] := hl
  refine lv_iconst (v := 0) hx hb dX14_lends_0 (by decide) ?_
  refine lv_istore_n (lv' := [(2, .int 0), (0, .ref q), (1, .ref na)]) hx hb dX14_lends_1 rfl hl (by decide) rfl (fun ls hl => ?_)
  refine lv_iconst (v := 0) hx hb dX14_lends_2 (by decide) ?_
  refine lv_istore_n (lv' := [(3, .int 0), (2, .int 0), (0, .ref q), (1, .ref na)]) hx hb dX14_lends_3 rfl hl (by decide) rfl (fun ls hl => ?_)
  refine lv_iload_n hx hb dX14_lends_4 rfl (lv_at hl 0 rfl) ?_
  refine lv_iconst (v := 1) hx hb dX14_lends_5 (by decide) ?_
  refine lv_iadd hx hb dX14_lends_6 ?_
  refine lv_topi (fun x_1 ex_1 => ?_)
  obtain rfl : x_1 = 1 := ex_1.trans (by decide)
  refine lv_aload_n hx hb dX14_lends_7 rfl (lv_at hl 3 rfl) ?_
  refine va_alen hx hb hK hR 0 0 rfl rfl (v := 0) rfl dX14_lends_8 ?_
  refine lv_icmp_ge (tgt := 68) hx hb dX14_lends_9 (by decide) (fun c_2 => ?_) (fun c_2 => absurd c_2 (by decide))
  refine lv_iload_n hx hb dX14_lends_68 rfl (lv_at hl 1 rfl) ?_
  refine W.widen (k := 0) (n := 0) (Nat.le_of_ble_eq_true rfl) (Nat.le_of_ble_eq_true rfl) ?_
  exact W.iret (v := 0) hx hb hr (fun t ht hW => ⟨⟨0, (), rfl, (z_c_X14_lends_164), trivial⟩, hS.F ht⟩) hS.2.2 dX14_lends_69

def wo_c_does_o_w : List Cond := []
def wo_c_does_o : List Cond := .code yX14_does cX14_does 4 (some .int) :: (wo_c_does_o_w ++ (u_ws RX12 TX12 2 ++ (wsV RX14 196 RX14 yX14_lends wo_c_X14_lends ++ List.nil)))
theorem gw_wo_c_does_o : wo_c_does_o.all goodWord = true := gw_c (by decide +kernel) (gw_a (by decide +kernel) (gw_a (by decide +kernel) (gw_a (gw_a (by decide +kernel) gw_wo_c_X14_lends) rfl)))
theorem go_c_does_o_0 : GoodIn wo_c_does_o (wsV RX14 196 RX14 yX14_lends wo_c_X14_lends) := goodIn_sub (fun _ h => List.mem_cons_of_mem _ (List.mem_append_right _ (List.mem_append_right _ (List.mem_append_left _ h)))) (gw_a (by decide +kernel) gw_wo_c_X14_lends)
set_option maxHeartbeats 4000000 in
set_option maxRecDepth 100000 in
/-- Picture.does(a loan without legs) -/
theorem c_does_o (l : Launch) (dC : Nat → ClassId) (dI : Nat → Nat → Nat) (b0 : Nat) (en : EnT) (sz : Nat) (q ap sc mm c0 : Nat) (kQ : ClassId) (g : Nat → Option Nat) (ac na : Nat) (kA : ClassId) (fN : Nat → Int32) (hbc : b0 ≤ c0) (hcs : c0 ≤ sz) (hWc : ∀ (k9 : Nat) (q9 : Nat × va_E), ([(q, .inr (20, [.ref ap, .ref sc, .int 1600, .int 0, .int 0, .ref mm])), (ap, .inl (kQ, 48, .inr (.inr (.inr (.inr g))))), (sc, .inr (5, [.int 1, .ref en.2.2.1, .int 0])), (ac, .inr (18, [.int 111, .ref na])), (na, .inl (kA, 0, .inl fN))] : va_W)[k9]? = some q9 → c0 ≤ q9.1) (hRc : ∀ (k9 : Nat) (q9 : Nat × va_E), ([] : va_W)[k9]? = some q9 → q9.1 < c0) : Met l yX14_does wo_c_does_o ({ frames := 1, cells := 0, slots := 0, locals := 27 } : Room) (cP b0 en (dC, dI) [(kQ, .object "UnderpaintModel$Place"), (kA, .int)] [(q, .inr (20, [.ref ap, .ref sc, .int 1600, .int 0, .int 0, .ref mm])), (ap, .inl (kQ, 48, .inr (.inr (.inr (.inr g))))), (sc, .inr (5, [.int 1, .ref en.2.2.1, .int 0])), (ac, .inr (18, [.int 111, .ref na])), (na, .inl (kA, 0, .inl fN))] [] sz (fun U => FamP (dC, dI) (vN c0 [q, ap, sc]) en.2.2.1 g U) [.ref q, .ref ac]) (va_Qi (fun (r : Int32) (u : Unit) => r = 0) (fun u t => cB (dC, dI) [] [] (vC c0) (fun _ => True) t) (vC c0)) 0 0 (vC c0) := by
  refine Met.ofW (cc := cX14_does) (maxL := 4) (ret := (some .int)) (by decide) rfl ?_
  intro p e s m args below meth c s₁ B hml hv
  obtain ⟨rfl, hsz, hb0, hE, hPP, hK, hDD, hF0⟩ := hv
  have hx := B.exec
  have hb := B.bytes
  have hr := B.returns
  have hts := atoms_spec (ws := wo_c_does_o) B.pre
  have hown : s.vm.findClass RX14 = some m.cls := findClass_of_methodNamed B.named
  have hlocks := B.notSynchronized
  subst hsz
  have hN0 : ∀ (k9 : Nat) (q9 : Nat × va_E), ([] : va_W)[k9]? = some q9 → ¬ vC c0 q9.1 := fun k q h => Nat.not_le.mpr (hRc k q h)
  have hP : va_P (dC, dI) vwCl [(q, .inr (20, [.ref ap, .ref sc, .int 1600, .int 0, .int 0, .ref mm])), (ap, .inl (kQ, 48, .inr (.inr (.inr (.inr g))))), (sc, .inr (5, [.int 1, .ref en.2.2.1, .int 0])), (ac, .inr (18, [.int 111, .ref na])), (na, .inl (kA, 0, .inl fN))] s.heap := hPP.sub [0, 1, 2, 3, 4] rfl
  have hR0 : va_P (dC, dI) vwCl [] s.heap := hPP.sub [] rfl
  have hD0 : va_D (fun q => b0 ≤ q) [(q, .inr (20, [.ref ap, .ref sc, .int 1600, .int 0, .int 0, .ref mm])), (ap, .inl (kQ, 48, .inr (.inr (.inr (.inr g))))), (sc, .inr (5, [.int 1, .ref en.2.2.1, .int 0])), (ac, .inr (18, [.int 111, .ref na])), (na, .inl (kA, 0, .inl fN))] := hDD.sub [0, 1, 2, 3, 4] (by decide) rfl
  have hDr : va_D (fun q => b0 ≤ q) [] := hDD.sub [] (by decide) rfl
  have hAb : ∀ q, vC c0 q → b0 ≤ q := fun q h => Nat.le_trans hbc h
  have hD : va_D (vC c0) [(q, .inr (20, [.ref ap, .ref sc, .int 1600, .int 0, .int 0, .ref mm])), (ap, .inl (kQ, 48, .inr (.inr (.inr (.inr g))))), (sc, .inr (5, [.int 1, .ref en.2.2.1, .int 0])), (ac, .inr (18, [.int 111, .ref na])), (na, .inl (kA, 0, .inl fN))] := ⟨hD0.1, hWc⟩
  have hAc : ∀ q : Nat, c0 ≤ q → vC c0 q := fun q h => h
  have hA0 : ∀ q : Nat, s.heap.size ≤ q → vC c0 q := fun q h => Nat.le_trans hcs h
  generalize hAe : vC c0 = A at hD hAb hN0 hAc hA0 ⊢
  have hA : ∀ q : Nat, s.heap.size ≤ q → A q := hA0
  have hS : va_S A s.heap s.heap [] := va_S.rf
  have hR := hR0
  have hl := lv_entry [.ref q, .ref ac] (n := 4) (Nat.le_of_ble_eq_true rfl)
  rw [lg_entry_eq]
  generalize (lg_sl [.ref q, .ref ac] ++ List.replicate (4 - (lg_sl [.ref q, .ref ac]).length) Slot.unset).toArray = ls at hl ⊢
  have hl : lv_has ls 4 [(0, .ref q), (1, .ref ac)] := hl
  have hge_q : c0 ≤ q := (hWc 0 _ rfl)
  have hge_ap : c0 ≤ ap := (hWc 1 _ rfl)
  have hge_sc : c0 ≤ sc := (hWc 2 _ rfl)
  have hge_ac : c0 ≤ ac := (hWc 3 _ rfl)
  have hge_na : c0 ≤ na := (hWc 4 _ rfl)
  have hG := hF0
  have hR0b := hR0
  have hDrb := hDr
  have hN0b := hN0
  refine lv_aload_n hx hb dX14_does_0 rfl (lv_at hl 1 rfl) ?_
  refine va_getN (D := (dC, dI)) (ci := 18) (v := .ref na) (C := RX12) (T := TX12) (N := 2) hx hb hts (by decide +kernel) hown hK hP 3 rfl rfl 1 (by decide) (va_Nw.use rfl (hE.nf ("UnderpaintModel$Picture", 161, "UnderpaintModel$Act", "n", "[I", "UnderpaintModel") (by decide +kernel))) (fun _ h9 => h9) rfl dX14_does_1 ?_
  refine lv_astore_n (lv' := [(2, .ref na), (0, .ref q), (1, .ref ac)]) hx hb dX14_does_4 rfl hl (by decide) rfl (fun ls hl => ?_)
  refine lv_aload_n hx hb dX14_does_5 rfl (lv_at hl 2 rfl) ?_
  refine va_getN (D := (dC, dI)) (ci := 18) (v := .int 111) (C := RX12) (T := TX12) (N := 2) hx hb hts (by decide +kernel) hown hK hP 3 rfl rfl 0 (by decide) (va_Nw.use rfl (hE.nf ("UnderpaintModel$Picture", 167, "UnderpaintModel$Act", "what", "C", "UnderpaintModel") (by decide +kernel))) (fun _ h9 => h9) rfl dX14_does_6 ?_
  refine lv_tableIn (off := 293) (tgt := 302) hx hb dX14_does_9 (by decide) (by decide) (by decide) (by decide) ?_
  refine lv_aload_n hx hb dX14_does_302 rfl (lv_at hl 1 rfl) ?_
  refine lv_aload_n hx hb dX14_does_303 rfl (lv_at hl 0 rfl) ?_
  have hPc := (hP.app hR).sub (ws' := [] ++ [(na, .inl (kA, 0, .inl fN))]) [4] rfl
  have hDc := (en_DD hD hDr hN0 hAb).sub (ws' := [] ++ [(na, .inl (kA, 0, .inl fN))]) [4] (by decide) rfl
  have hKc := hK.sub (tys' := [(kA, .int)]) [1] rfl
  have hFc := va_free (wc := []) hD hS hA [] rfl
  refine va_calli (va_runV (As := [.ref na]) (rest := []) ⟨hx, hb, hml, hown, hts⟩ (c_X14_lends l dC dI b0 en s.heap.size q na kA fN) (cwV 1 hts go_c_does_o_0 rfl rfl rfl (by decide +kernel) ⟨Nat.le_of_ble_eq_true rfl, Nat.le_of_ble_eq_true rfl⟩) ⟨cP.blind, va_recv hK hP (ci := 20) (q0 := 0) rfl rfl, cP.use (en_z hb0 hS) (hE.on hAb hS) hPc hKc hDc trivial⟩ rfl rfl hl.1 rfl (lv_room (Nat.le_of_ble_eq_true rfl)) dX14_does_304 ⟨Nat.le_of_ble_eq_true rfl, Nat.le_of_ble_eq_true rfl⟩) hS (fun q _ h => hFc q h) hFc (fun r_1 u t H1 locs ht hvm hw hB hz1 hk1 hS => ?_)
  have hP1 : va_P (dC, dI) vwCl [] H1 := fun k q h => by simp at h
  have hD1 : va_D (va_A [] s.heap.size) [] := ⟨fun i j p q h => by simp at h, fun k q h => by simp at h⟩
  try dsimp only at hw
  obtain ⟨hP, hD⟩ := va_join (wr := [(q, .inr (20, [.ref ap, .ref sc, .int 1600, .int 0, .int 0, .ref mm])), (ap, .inl (kQ, 48, .inr (.inr (.inr (.inr g))))), (sc, .inr (5, [.int 1, .ref en.2.2.1, .int 0])), (ac, .inr (18, [.int 111, .ref na])), (na, .inl (kA, 0, .inl fN))]) (w1 := []) hP hD [] [0, 1, 2, 3, 4] rfl rfl (by decide) (by decide) hk1 hFc hP1 hD1
  have hG := hG.hq (hq_.of (ws := []) hk1)
  generalize H1 = H at hP hS hG ⊢
  have hP : va_P (dC, dI) vwCl [(q, .inr (20, [.ref ap, .ref sc, .int 1600, .int 0, .int 0, .ref mm])), (ap, .inl (kQ, 48, .inr (.inr (.inr (.inr g))))), (sc, .inr (5, [.int 1, .ref en.2.2.1, .int 0])), (ac, .inr (18, [.int 111, .ref na])), (na, .inl (kA, 0, .inl fN))] H := hP
  have hD : va_D A [(q, .inr (20, [.ref ap, .ref sc, .int 1600, .int 0, .int 0, .ref mm])), (ap, .inl (kQ, 48, .inr (.inr (.inr (.inr g))))), (sc, .inr (5, [.int 1, .ref en.2.2.1, .int 0])), (ac, .inr (18, [.int 111, .ref na])), (na, .inl (kA, 0, .inl fN))] := hD
  have hR : va_P (dC, dI) vwCl [] H := fun k q h => by simp at h
  refine W.widen (k := 0) (n := 0) (Nat.le_of_ble_eq_true rfl) (Nat.le_of_ble_eq_true rfl) ?_
  subst r_1
  refine W.widen (k := 0) (n := 0) (Nat.le_of_ble_eq_true rfl) (Nat.le_of_ble_eq_true rfl) ?_
  exact W.iret (v := 0) hx hb hr (fun t ht hW => ⟨⟨0, (), rfl, (z_c_X14_lends_164), cB.mk ht hW (hP.sub [] rfl) (hK.sub [] rfl) (hD.sub [] (by decide) rfl) (trivial)⟩, hS.F ht⟩) hS.2.2 dX14_does_307
theorem z_c_keeps_y_165 (fN : Nat → Int32) (yy : Nat) (a_0 : yy ≤ 50) (a_1 : fN 0 = nI yy) : yy ≤ 50 := by first | rfl | grind
theorem z_c_keeps_y_166 (fN : Nat → Int32) (yy : Nat) (a_0 : yy ≤ 50) (a_1 : fN 0 = nI yy) : fN 0 = nI yy := by first | rfl | grind
theorem z_c_keeps_y_167 (fN : Nat → Int32) (yy : Nat) (a_0 : yy ≤ 50) (a_1 : fN 0 = nI yy) (a_2 : (1600 + nI yy) ≠ -1) (a_3 : ¬ (1600 + nI yy) = (-1)) : (0 : Int32) = 0 ∧ (1600 + nI yy) = 1600 + nI yy := by first | rfl | grind
theorem z_c_keeps_y_168 (fN : Nat → Int32) (yy : Nat) (a_0 : yy ≤ 50) (a_1 : fN 0 = nI yy) (a_2 : (1600 + nI yy) ≠ -1) (a_3 : (1600 + nI yy) = (-1)) : False := by first | rfl | grind
set_option maxRecDepth 100000 in
theorem gw_wsJx4a65c_add_9ea2d : wsJx4a65c_add_9ea2d.all goodWord = true := by decide +kernel
set_option maxRecDepth 100000 in
theorem gw_wsX14_copy : wsX14_copy.all goodWord = true := by decide +kernel
def wo_c_keeps_y_w : List Cond := [Cond.fieldLink RX18 25 "UnderpaintModel" "picture" "LUnderpaintModel$Picture;", Cond.fieldLink RX18 29 "UnderpaintModel" "acts" "Ljava/util/List;"]
def wo_c_keeps_y : List Cond := .code yX18_keeps cX18_keeps 5 (some .int) :: (wo_c_keeps_y_w ++ (u_ws RX18 TX18 17 ++ (wsV RX18 111 RX14 yX14_copy wsX14_copy ++ (wsV RX18 115 RX14 yX14_does wo_c_does_y ++ (va_wsF RX18 74 RJx4a65c ⟨"java/util/List", "size", "()I"⟩ yJx4a65c_size_8abf5 wsJx4a65c_size_8abf5 ++ (va_wsF RX18 96 RJx4a65c ⟨"java/util/List", "add", "(Ljava/lang/Object;)Z"⟩ yJx4a65c_add_9ea2d wsJx4a65c_add_9ea2d ++ List.nil))))))
theorem gw_wo_c_keeps_y : wo_c_keeps_y.all goodWord = true := gw_c (by decide +kernel) (gw_a (by decide +kernel) (gw_a (by decide +kernel) (gw_a (gw_a (by decide +kernel) gw_wsX14_copy) (gw_a (gw_a (by decide +kernel) gw_wo_c_does_y) (gw_a (gw_a (by decide +kernel) gw_wsJx4a65c_size_8abf5) (gw_a (gw_a (by decide +kernel) gw_wsJx4a65c_add_9ea2d) rfl))))))
theorem go_c_keeps_y_0 : GoodIn wo_c_keeps_y (wsV RX18 111 RX14 yX14_copy wsX14_copy) := goodIn_sub (fun _ h => List.mem_cons_of_mem _ (List.mem_append_right _ (List.mem_append_right _ (List.mem_append_left _ h)))) (gw_a (by decide +kernel) gw_wsX14_copy)
theorem go_c_keeps_y_1 : GoodIn wo_c_keeps_y (wsV RX18 115 RX14 yX14_does wo_c_does_y) := goodIn_sub (fun _ h => List.mem_cons_of_mem _ (List.mem_append_right _ (List.mem_append_right _ (List.mem_append_right _ (List.mem_append_left _ h))))) (gw_a (by decide +kernel) gw_wo_c_does_y)
theorem go_c_keeps_y_2 : GoodIn wo_c_keeps_y (va_wsF RX18 74 RJx4a65c ⟨"java/util/List", "size", "()I"⟩ yJx4a65c_size_8abf5 wsJx4a65c_size_8abf5) := goodIn_sub (fun _ h => List.mem_cons_of_mem _ (List.mem_append_right _ (List.mem_append_right _ (List.mem_append_right _ (List.mem_append_right _ (List.mem_append_left _ h)))))) (gw_a (by decide +kernel) gw_wsJx4a65c_size_8abf5)
theorem go_c_keeps_y_3 : GoodIn wo_c_keeps_y (va_wsF RX18 96 RJx4a65c ⟨"java/util/List", "add", "(Ljava/lang/Object;)Z"⟩ yJx4a65c_add_9ea2d wsJx4a65c_add_9ea2d) := goodIn_sub (fun _ h => List.mem_cons_of_mem _ (List.mem_append_right _ (List.mem_append_right _ (List.mem_append_right _ (List.mem_append_right _ (List.mem_append_right _ (List.mem_append_left _ h))))))) (gw_a (by decide +kernel) gw_wsJx4a65c_add_9ea2d)
set_option maxHeartbeats 4000000 in
set_option maxRecDepth 100000 in
/-- keeps -/
theorem c_keeps_y (l : Launch) (dC : Nat → ClassId) (dI : Nat → Nat → Nat) (b0 : Nat) (en : EnT) (sz : Nat) (mm stu cla pic act nts isn boa mas pai sol bal leg : Nat) (ap scr : Nat) (g : Nat → Option Nat) (kP : ClassId) (N : Nat → Prop) (ac na : Nat) (kA : ClassId) (fN : Nat → Int32) (yy : Nat) (hNb : ∀ a, N a → b0 ≤ a ∧ a < sz) (hNw : ∀ a, N a → a ∉ List.map Prod.fst ([(mm, .inr (24, [.int 0, .ref stu, .ref cla, .ref pic, .ref act, .int 5, .int 50, .ref nts, .ref isn, .int 1600, .ref boa, .ref mas, .ref pai, .ref sol, .int 0, .ref bal, .ref leg])), (act, .inr (5, [.int 0, .ref en.2.2.1, .int 0]))] : va_W)) (hNr : ∀ a, N a → a ∉ List.map Prod.fst ([(pic, .inr (20, [.ref ap, .ref scr, .int 1600, .int 0, .int 0, .ref mm])), (ap, .inl (kP, 48, .inr (.inr (.inr (.inr g))))), (scr, .inr (5, [.int 0, .ref en.2.2.1, .int 0])), (ac, .inr (18, [.int 121, .ref na])), (na, .inl (kA, 3, .inl fN))] : va_W)) (hN : yy ≤ 50) (hfN : fN 0 = nI yy) : Met l yX18_keeps wo_c_keeps_y ({ frames := 7, cells := 149, slots := 547, locals := 158 } : Room) (cP b0 en (dC, dI) [(kP, .object "UnderpaintModel$Place"), (kA, .int)] [(mm, .inr (24, [.int 0, .ref stu, .ref cla, .ref pic, .ref act, .int 5, .int 50, .ref nts, .ref isn, .int 1600, .ref boa, .ref mas, .ref pai, .ref sol, .int 0, .ref bal, .ref leg])), (act, .inr (5, [.int 0, .ref en.2.2.1, .int 0]))] [(pic, .inr (20, [.ref ap, .ref scr, .int 1600, .int 0, .int 0, .ref mm])), (ap, .inl (kP, 48, .inr (.inr (.inr (.inr g))))), (scr, .inr (5, [.int 0, .ref en.2.2.1, .int 0])), (ac, .inr (18, [.int 121, .ref na])), (na, .inl (kA, 3, .inl fN))] sz (FamP (dC, dI) N en.2.2.1 g) [.ref mm, .ref ac, .int (-1)]) (va_Qi (fun (r : Int32) (u : Int32 × List Value) => u.1 = 0 ∧ r = 1600 + nI yy) (fun u t => cB (dC, dI) [] [(mm, .inr (24, .int u.1 :: u.2))] (va_A [(mm, .inr (24, [.int 0, .ref stu, .ref cla, .ref pic, .ref act, .int 5, .int 50, .ref nts, .ref isn, .int 1600, .ref boa, .ref mas, .ref pai, .ref sol, .int 0, .ref bal, .ref leg])), (act, .inr (5, [.int 0, .ref en.2.2.1, .int 0]))] sz) (fun _ => True) t) (va_A [(mm, .inr (24, [.int 0, .ref stu, .ref cla, .ref pic, .ref act, .int 5, .int 50, .ref nts, .ref isn, .int 1600, .ref boa, .ref mas, .ref pai, .ref sol, .int 0, .ref bal, .ref leg])), (act, .inr (5, [.int 0, .ref en.2.2.1, .int 0]))] sz)) 149 547 (va_A [(mm, .inr (24, [.int 0, .ref stu, .ref cla, .ref pic, .ref act, .int 5, .int 50, .ref nts, .ref isn, .int 1600, .ref boa, .ref mas, .ref pai, .ref sol, .int 0, .ref bal, .ref leg])), (act, .inr (5, [.int 0, .ref en.2.2.1, .int 0]))] sz) := by
  refine Met.ofW (cc := cX18_keeps) (maxL := 5) (ret := (some .int)) (by decide) rfl ?_
  intro p e s m args below meth c s₁ B hml hv
  obtain ⟨rfl, hsz, hb0, hE, hPP, hK, hDD, hF0⟩ := hv
  have hx := B.exec
  have hb := B.bytes
  have hr := B.returns
  have hts := atoms_spec (ws := wo_c_keeps_y) B.pre
  have hown : s.vm.findClass RX18 = some m.cls := findClass_of_methodNamed B.named
  have hlocks := B.notSynchronized
  subst hsz
  have hN0 := en_N hPP hDD rfl
  have hP : va_P (dC, dI) vwCl [(mm, .inr (24, [.int 0, .ref stu, .ref cla, .ref pic, .ref act, .int 5, .int 50, .ref nts, .ref isn, .int 1600, .ref boa, .ref mas, .ref pai, .ref sol, .int 0, .ref bal, .ref leg])), (act, .inr (5, [.int 0, .ref en.2.2.1, .int 0]))] s.heap := hPP.sub [0, 1] rfl
  have hR0 : va_P (dC, dI) vwCl [(pic, .inr (20, [.ref ap, .ref scr, .int 1600, .int 0, .int 0, .ref mm])), (ap, .inl (kP, 48, .inr (.inr (.inr (.inr g))))), (scr, .inr (5, [.int 0, .ref en.2.2.1, .int 0])), (ac, .inr (18, [.int 121, .ref na])), (na, .inl (kA, 3, .inl fN))] s.heap := hPP.sub [2, 3, 4, 5, 6] rfl
  have hD0 : va_D (fun q => b0 ≤ q) [(mm, .inr (24, [.int 0, .ref stu, .ref cla, .ref pic, .ref act, .int 5, .int 50, .ref nts, .ref isn, .int 1600, .ref boa, .ref mas, .ref pai, .ref sol, .int 0, .ref bal, .ref leg])), (act, .inr (5, [.int 0, .ref en.2.2.1, .int 0]))] := hDD.sub [0, 1] (by decide) rfl
  have hDr : va_D (fun q => b0 ≤ q) [(pic, .inr (20, [.ref ap, .ref scr, .int 1600, .int 0, .int 0, .ref mm])), (ap, .inl (kP, 48, .inr (.inr (.inr (.inr g))))), (scr, .inr (5, [.int 0, .ref en.2.2.1, .int 0])), (ac, .inr (18, [.int 121, .ref na])), (na, .inl (kA, 3, .inl fN))] := hDD.sub [2, 3, 4, 5, 6] (by decide) rfl
  have hAb := en_A (sz := s.heap.size) hD0 hb0
  have hD := hD0.self (sz := s.heap.size)
  generalize hAe : va_A [(mm, .inr (24, [.int 0, .ref stu, .ref cla, .ref pic, .ref act, .int 5, .int 50, .ref nts, .ref isn, .int 1600, .ref boa, .ref mas, .ref pai, .ref sol, .int 0, .ref bal, .ref leg])), (act, .inr (5, [.int 0, .ref en.2.2.1, .int 0]))] s.heap.size = A at hD hAb hN0 ⊢
  have hA : ∀ q : Nat, s.heap.size ≤ q → A q := fun q h => by rw [← hAe]; exact Or.inr h
  have hS : va_S A s.heap s.heap [] := va_S.rf
  have hR := hR0
  have hl := lv_entry [.ref mm, .ref ac, .int (-1)] (n := 5) (Nat.le_of_ble_eq_true rfl)
  rw [lg_entry_eq]
  generalize (lg_sl [.ref mm, .ref ac, .int (-1)] ++ List.replicate (5 - (lg_sl [.ref mm, .ref ac, .int (-1)]).length) Slot.unset).toArray = ls at hl ⊢
  have hl : lv_has ls 5 [(0, .ref mm), (1, .ref ac), (2, .int (-1))] := hl
  have hAc := hA
  have hlt_mm : mm < s.heap.size := (hPP 0 _ rfl).lt
  have hlt_act : act < s.heap.size := (hPP 1 _ rfl).lt
  have hlt_pic : pic < s.heap.size := (hPP 2 _ rfl).lt
  have hlt_ap : ap < s.heap.size := (hPP 3 _ rfl).lt
  have hlt_scr : scr < s.heap.size := (hPP 4 _ rfl).lt
  have hlt_ac : ac < s.heap.size := (hPP 5 _ rfl).lt
  have hlt_na : na < s.heap.size := (hPP 6 _ rfl).lt
  have hR0b := hR0
  have hDrb := hDr
  have hN0b := hN0
  refine lv_aload_n hx hb dX18_keeps_0 rfl (lv_at hl 0 rfl) ?_
  refine va_get (D := (dC, dI)) (ci := 24) (v := .ref pic) (C := RX18) (T := TX18) (N := 17) hx hb hts (by decide +kernel) hown hK hP 0 rfl rfl 3 (by decide) (hts (.fieldLink RX18 25 "UnderpaintModel" "picture" "LUnderpaintModel$Picture;") (by decide +kernel)) (fun _ h9 => h9) rfl dX18_keeps_1 ?_
  have hS9 := hS
  have hPc := (hP.app hR).sub (ws' := [] ++ [(pic, .inr (20, [.ref ap, .ref scr, .int 1600, .int 0, .int 0, .ref mm])), (ap, .inl (kP, 48, .inr (.inr (.inr (.inr g))))), (scr, .inr (5, [.int 0, .ref en.2.2.1, .int 0]))]) [2, 3, 4] rfl
  have hDc := (en_DD hD hDr hN0 hAb).sub (ws' := [] ++ [(pic, .inr (20, [.ref ap, .ref scr, .int 1600, .int 0, .int 0, .ref mm])), (ap, .inl (kP, 48, .inr (.inr (.inr (.inr g))))), (scr, .inr (5, [.int 0, .ref en.2.2.1, .int 0]))]) [2, 3, 4] (by decide) rfl
  have hKc := hK.sub (tys' := [(kP, .object "UnderpaintModel$Place")]) [0] rfl
  have hFc := va_free (wc := []) hD hS hA [] rfl
  refine va_callr (va_runV (As := []) (rest := []) ⟨hx, hb, hml, hown, hts⟩ (c_X14_copy l dC dI b0 en s.heap.size pic ap scr mm g kP N (fun a9 h9 => ⟨(hNb a9 h9).1, Nat.lt_of_lt_of_le (hNb a9 h9).2 hS.1⟩) (fun a9 h9 z9 => by have g1 := hNw a9 h9; have g2 := hNr a9 h9; have g3 := (hNb a9 h9).2; simp only [List.map_cons, List.map_nil, List.mem_cons, List.not_mem_nil, or_false, not_or] at g1 g2 z9 <;> omega) (fun a9 h9 z9 => by have g1 := hNw a9 h9; have g2 := hNr a9 h9; have g3 := (hNb a9 h9).2; simp only [List.map_cons, List.map_nil, List.mem_cons, List.not_mem_nil, or_false, not_or] at g1 g2 z9 <;> omega)) (cwV 0 hts go_c_keeps_y_0 rfl rfl rfl (by decide +kernel) ⟨Nat.le_of_ble_eq_true rfl, Nat.le_of_ble_eq_true rfl⟩) ⟨cP.blind, va_recv hK hR (ci := 20) (q0 := 0) rfl rfl, cP.use (en_z hb0 hS) (hE.on hAb hS) hPc hKc hDc (hF0.on (fun a9 h8 h9 => by rw [← hAe]; exact vA1 h8 (hNw a9 h9)) hS)⟩ rfl rfl hl.1 rfl (lv_room (Nat.le_of_ble_eq_true rfl)) dX18_keeps_4 ⟨Nat.le_of_ble_eq_true rfl, Nat.le_of_ble_eq_true rfl⟩) hS (fun q _ h => hFc q h) hFc (fun ⟨ap2_2, sc2_3, kQ_4, g2_5⟩ r_6 t H1 locs ht hvm hw hB hz1 hk1 hS => ?_)
  obtain ⟨hP1, hK1, hD1, hF1⟩ := hB
  rw [ht] at hP1
  try rw [ht] at hF1
  have hK1 := va_K.moved hvm.symm hK1
  try dsimp only at hw
  obtain ⟨hP, hD⟩ := va_join (wr := [(mm, .inr (24, [.int 0, .ref stu, .ref cla, .ref pic, .ref act, .int 5, .int 50, .ref nts, .ref isn, .int 1600, .ref boa, .ref mas, .ref pai, .ref sol, .int 0, .ref bal, .ref leg])), (act, .inr (5, [.int 0, .ref en.2.2.1, .int 0]))]) (w1 := [(r_6, .inr (20, [.ref ap2_2, .ref sc2_3, .int 1600, .int 0, .int 0, .ref mm])), (ap2_2, .inl (kQ_4, 48, .inr (.inr (.inr (.inr g2_5))))), (sc2_3, .inr (5, [.int 1, .ref en.2.2.1, .int 0]))]) hP hD [] [0, 1] rfl rfl (by decide) (by decide) hk1 hFc hP1 hD1
  have hK := hK.app hK1
  have hG : FamP (dC, dI) (vN s.heap.size [r_6, ap2_2, sc2_3]) en.2.2.1 g2_5 H1 := FamP.mono hF1 (fun a9 h9 => ⟨Nat.le_trans hS9.1 h9.1, h9.2⟩)
  have hge_r_6 : s.heap.size ≤ r_6 := Nat.le_trans hS9.1 (vGe hD1 0 rfl)
  have hge_ap2_2 : s.heap.size ≤ ap2_2 := Nat.le_trans hS9.1 (vGe hD1 1 rfl)
  have hge_sc2_3 : s.heap.size ≤ sc2_3 := Nat.le_trans hS9.1 (vGe hD1 2 rfl)
  have hgz_r_6 : s.heap.size ≤ r_6 := Nat.le_trans hS9.1 (vGeN hD1 0 rfl (by simp only [List.map_cons, List.map_nil, List.mem_cons, List.not_mem_nil, or_false, not_or, not_false_eq_true]))
  have hgz_ap2_2 : s.heap.size ≤ ap2_2 := Nat.le_trans hS9.1 (vGeN hD1 1 rfl (by simp only [List.map_cons, List.map_nil, List.mem_cons, List.not_mem_nil, or_false, not_or, not_false_eq_true]))
  have hgz_sc2_3 : s.heap.size ≤ sc2_3 := Nat.le_trans hS9.1 (vGeN hD1 2 rfl (by simp only [List.map_cons, List.map_nil, List.mem_cons, List.not_mem_nil, or_false, not_or, not_false_eq_true]))
  generalize H1 = H at hP hS hG ⊢
  have hP : va_P (dC, dI) vwCl [(mm, .inr (24, [.int 0, .ref stu, .ref cla, .ref pic, .ref act, .int 5, .int 50, .ref nts, .ref isn, .int 1600, .ref boa, .ref mas, .ref pai, .ref sol, .int 0, .ref bal, .ref leg])), (act, .inr (5, [.int 0, .ref en.2.2.1, .int 0])), (r_6, .inr (20, [.ref ap2_2, .ref sc2_3, .int 1600, .int 0, .int 0, .ref mm])), (ap2_2, .inl (kQ_4, 48, .inr (.inr (.inr (.inr g2_5))))), (sc2_3, .inr (5, [.int 1, .ref en.2.2.1, .int 0]))] H := hP
  have hD : va_D A [(mm, .inr (24, [.int 0, .ref stu, .ref cla, .ref pic, .ref act, .int 5, .int 50, .ref nts, .ref isn, .int 1600, .ref boa, .ref mas, .ref pai, .ref sol, .int 0, .ref bal, .ref leg])), (act, .inr (5, [.int 0, .ref en.2.2.1, .int 0])), (r_6, .inr (20, [.ref ap2_2, .ref sc2_3, .int 1600, .int 0, .int 0, .ref mm])), (ap2_2, .inl (kQ_4, 48, .inr (.inr (.inr (.inr g2_5))))), (sc2_3, .inr (5, [.int 1, .ref en.2.2.1, .int 0]))] := hD
  have hR := en_R hR0 hN0 hS
  refine W.widen (k := 148) (n := 537) (Nat.le_of_ble_eq_true rfl) (Nat.le_of_ble_eq_true rfl) ?_
  refine lv_astore_n (lv' := [(3, .ref r_6), (0, .ref mm), (1, .ref ac), (2, .int (-1))]) hx hb dX18_keeps_7 rfl hl (by decide) rfl (fun ls hl => ?_)
  refine lv_aload_n hx hb dX18_keeps_8 rfl (lv_at hl 0 rfl) ?_
  refine lv_aload_n hx hb dX18_keeps_9 rfl (lv_at hl 2 rfl) ?_
  have hPc := (hP.app hR).sub (ws' := [(r_6, .inr (20, [.ref ap2_2, .ref sc2_3, .int 1600, .int 0, .int 0, .ref mm])), (ap2_2, .inl (kQ_4, 48, .inr (.inr (.inr (.inr g2_5))))), (sc2_3, .inr (5, [.int 1, .ref en.2.2.1, .int 0]))] ++ [(ac, .inr (18, [.int 121, .ref na])), (na, .inl (kA, 3, .inl fN))]) [2, 3, 4, 8, 9] rfl
  have hDc := (en_DD hD hDr hN0 hAb).sub (ws' := [(r_6, .inr (20, [.ref ap2_2, .ref sc2_3, .int 1600, .int 0, .int 0, .ref mm])), (ap2_2, .inl (kQ_4, 48, .inr (.inr (.inr (.inr g2_5))))), (sc2_3, .inr (5, [.int 1, .ref en.2.2.1, .int 0]))] ++ [(ac, .inr (18, [.int 121, .ref na])), (na, .inl (kA, 3, .inl fN))]) [2, 3, 4, 8, 9] (by decide) rfl
  have hKc := hK.sub (tys' := [(kQ_4, .object "UnderpaintModel$Place"), (kA, .int)]) [2, 1] rfl
  have hFc : ∀ q, vC s.heap.size q → A q := fun q h => hAc q h
  refine va_calli (va_runV (As := [.ref ac]) (rest := []) ⟨hx, hb, hml, hown, hts⟩ (c_does_y l dC dI b0 en H.size r_6 ap2_2 sc2_3 mm s.heap.size kQ_4 g2_5 ac na kA fN yy (z_c_keeps_y_165 fN yy hN hfN) (z_c_keeps_y_166 fN yy hN hfN) hb0 hS.1 (vW1 (by first | exact hge_r_6 | exact hc0_r_6 | omega) (vW1 (by first | exact hge_ap2_2 | exact hc0_ap2_2 | omega) (vW1 (by first | exact hge_sc2_3 | exact hc0_sc2_3 | omega) vW0))) (vL1 (by first | exact hlt_ac | omega) (vL1 (by first | exact hlt_na | omega) vL0))) (cwV 1 hts go_c_keeps_y_1 rfl rfl rfl (by decide +kernel) ⟨Nat.le_of_ble_eq_true rfl, Nat.le_of_ble_eq_true rfl⟩) ⟨cP.blind, va_recv hK hP (ci := 20) (q0 := 2) rfl rfl, cP.use (en_z hb0 hS) (hE.on hAb hS) hPc hKc hDc hG⟩ rfl rfl hl.1 rfl (lv_room (Nat.le_of_ble_eq_true rfl)) dX18_keeps_10 ⟨Nat.le_of_ble_eq_true rfl, Nat.le_of_ble_eq_true rfl⟩) hS (fun q _ h => hFc q h) hFc (fun r_7 u t H1 locs ht hvm hw hB hz1 hk1 hS => ?_)
  obtain ⟨hP1, hK1, hD1, hF1⟩ := hB
  rw [ht] at hP1
  try rw [ht] at hF1
  have hK1 := va_K.moved hvm.symm hK1
  try dsimp only at hw
  have hLk : ∀ (k9 : Nat) (q9 : Nat × va_E), ([(mm, .inr (24, [.int 0, .ref stu, .ref cla, .ref pic, .ref act, .int 5, .int 50, .ref nts, .ref isn, .int 1600, .ref boa, .ref mas, .ref pai, .ref sol, .int 0, .ref bal, .ref leg])), (act, .inr (5, [.int 0, .ref en.2.2.1, .int 0]))] : va_W)[k9]? = some q9 → q9.1 < s.heap.size := (vL1 (by first | exact hlt_mm | omega) (vL1 (by first | exact hlt_act | omega) vL0))
  have hP := (vC_kept (hP.sub (ws' := [(mm, .inr (24, [.int 0, .ref stu, .ref cla, .ref pic, .ref act, .int 5, .int 50, .ref nts, .ref isn, .int 1600, .ref boa, .ref mas, .ref pai, .ref sol, .int 0, .ref bal, .ref leg])), (act, .inr (5, [.int 0, .ref en.2.2.1, .int 0]))]) [0, 1] rfl) hLk hk1).app hP1
  have hD := vC_app (hD.sub (ws' := [(mm, .inr (24, [.int 0, .ref stu, .ref cla, .ref pic, .ref act, .int 5, .int 50, .ref nts, .ref isn, .int 1600, .ref boa, .ref mas, .ref pai, .ref sol, .int 0, .ref bal, .ref leg])), (act, .inr (5, [.int 0, .ref en.2.2.1, .int 0]))]) [0, 1] (by decide) rfl) hLk hD1 hAc
  generalize H1 = H at hP hS ⊢
  have hP : va_P (dC, dI) vwCl [(mm, .inr (24, [.int 0, .ref stu, .ref cla, .ref pic, .ref act, .int 5, .int 50, .ref nts, .ref isn, .int 1600, .ref boa, .ref mas, .ref pai, .ref sol, .int 0, .ref bal, .ref leg])), (act, .inr (5, [.int 0, .ref en.2.2.1, .int 0]))] H := hP
  have hD : va_D A [(mm, .inr (24, [.int 0, .ref stu, .ref cla, .ref pic, .ref act, .int 5, .int 50, .ref nts, .ref isn, .int 1600, .ref boa, .ref mas, .ref pai, .ref sol, .int 0, .ref bal, .ref leg])), (act, .inr (5, [.int 0, .ref en.2.2.1, .int 0]))] := hD
  have hR := en_R hR0 hN0 hS
  refine W.widen (k := 148) (n := 537) (Nat.le_of_ble_eq_true rfl) (Nat.le_of_ble_eq_true rfl) ?_
  obtain ⟨hw, h_8⟩ := hw
  subst r_7
  refine lv_istore (lv' := [(4, .int (1600 + nI yy)), (3, .ref r_6), (0, .ref mm), (1, .ref ac), (2, .int (-1))]) hx hb dX18_keeps_13 hl (by decide) rfl (fun ls hl => ?_)
  refine lv_iload hx hb dX18_keeps_15 (lv_at hl 0 rfl) ?_
  refine lv_iconst (v := (-1)) hx hb dX18_keeps_17 (by decide) ?_
  refine lv_icmp_ne (tgt := 31) hx hb dX18_keeps_18 (by decide) (fun c_9 => ?_) (fun c_9 => ?_)
  · skip
    refine lv_aload_n hx hb dX18_keeps_31 rfl (lv_at hl 2 rfl) ?_
    refine va_get (D := (dC, dI)) (ci := 24) (v := .ref act) (C := RX18) (T := TX18) (N := 17) hx hb hts (by decide +kernel) hown hK hP 0 rfl rfl 4 (by decide) (hts (.fieldLink RX18 29 "UnderpaintModel" "acts" "Ljava/util/List;") (by decide +kernel)) (fun _ h9 => h9) rfl dX18_keeps_32 ?_
    have hPc := (hP.app hR).sub (ws' := [] ++ [(act, .inr (5, [.int 0, .ref en.2.2.1, .int 0]))]) [1] rfl
    have hDc := (en_DD hD hDr hN0 hAb).sub (ws' := [] ++ [(act, .inr (5, [.int 0, .ref en.2.2.1, .int 0]))]) [1] (by decide) rfl
    have hKc := hK.sub (tys' := []) [] rfl
    have hFc := va_free (wc := []) hD hS hA [] rfl
    refine va_callFi (va_runF (As := []) (rest := []) (hK.1 5 _ rfl).2 ⟨hx, hb, hml, hown, hts⟩ (c_Jx4a65c_size l dC dI b0 en H.size act en.2.2.1 0 0) (va_cwF 0 hts go_c_keeps_y_2 rfl rfl rfl (hE.face ("java/util/ArrayList", ⟨"java/util/List", "size", "()I"⟩, ⟨"java/util/ArrayList", "size", "()I"⟩) (by decide +kernel)) (by decide +kernel) ⟨Nat.le_of_ble_eq_true rfl, Nat.le_of_ble_eq_true rfl⟩) ⟨cP.blind, va_recv hK hP (ci := 5) (q0 := 1) rfl rfl, cP.use (en_z hb0 hS) (hE.on hAb hS) hPc hKc hDc trivial⟩ rfl rfl hl.1 rfl (lv_room (Nat.le_of_ble_eq_true rfl)) dX18_keeps_35 ⟨Nat.le_of_ble_eq_true rfl, Nat.le_of_ble_eq_true rfl⟩) hS (fun q _ h => hFc q h) hFc (fun r_10 u t H1 locs ht hvm hw hB hz1 hk1 hS => ?_)
    have hP1 : va_P (dC, dI) vwCl [] H1 := fun k q h => by simp at h
    have hD1 : va_D (va_A [] H.size) [] := ⟨fun i j p q h => by simp at h, fun k q h => by simp at h⟩
    try dsimp only at hw
    obtain ⟨hP, hD⟩ := va_join (wr := [(mm, .inr (24, [.int 0, .ref stu, .ref cla, .ref pic, .ref act, .int 5, .int 50, .ref nts, .ref isn, .int 1600, .ref boa, .ref mas, .ref pai, .ref sol, .int 0, .ref bal, .ref leg])), (act, .inr (5, [.int 0, .ref en.2.2.1, .int 0]))]) (w1 := []) hP hD [] [0, 1] rfl rfl (by decide) (by decide) hk1 hFc hP1 hD1
    generalize H1 = H at hP hS ⊢
    have hP : va_P (dC, dI) vwCl [(mm, .inr (24, [.int 0, .ref stu, .ref cla, .ref pic, .ref act, .int 5, .int 50, .ref nts, .ref isn, .int 1600, .ref boa, .ref mas, .ref pai, .ref sol, .int 0, .ref bal, .ref leg])), (act, .inr (5, [.int 0, .ref en.2.2.1, .int 0]))] H := hP
    have hD : va_D A [(mm, .inr (24, [.int 0, .ref stu, .ref cla, .ref pic, .ref act, .int 5, .int 50, .ref nts, .ref isn, .int 1600, .ref boa, .ref mas, .ref pai, .ref sol, .int 0, .ref bal, .ref leg])), (act, .inr (5, [.int 0, .ref en.2.2.1, .int 0]))] := hD
    have hR := en_R hR0 hN0 hS
    refine W.widen (k := 148) (n := 537) (Nat.le_of_ble_eq_true rfl) (Nat.le_of_ble_eq_true rfl) ?_
    subst r_10
    refine lv_bipush (v := 40) hx hb dX18_keeps_40 (by decide) ?_
    refine lv_icmp_ne (tgt := 56) hx hb dX18_keeps_42 (by decide) (fun c_11 => ?_) (fun c_11 => absurd c_11 (by decide))
    refine lv_aload_n hx hb dX18_keeps_56 rfl (lv_at hl 2 rfl) ?_
    refine lv_aload_n hx hb dX18_keeps_57 rfl (lv_at hl 1 rfl) ?_
    refine va_put (D := (dC, dI)) (ci := 24) (v := .ref r_6) (ty := .object "UnderpaintModel$Picture") (C := RX18) (T := TX18) (N := 17) hx hb hts (by decide +kernel) tyX18 tyX18_ok nmX18 hown hK hP hD hS 0 rfl rfl 3 (by decide) (hts (.fieldLink RX18 25 "UnderpaintModel" "picture" "LUnderpaintModel$Picture;") (by decide +kernel)) (fun _ h9 => h9) rfl (by decide +kernel) rfl rfl (Nat.le_of_ble_eq_true rfl) dX18_keeps_58 (fun H locs hP hD hS => ?_)
    have hP : va_P (dC, dI) vwCl [(mm, .inr (24, [.int 0, .ref stu, .ref cla, .ref r_6, .ref act, .int 5, .int 50, .ref nts, .ref isn, .int 1600, .ref boa, .ref mas, .ref pai, .ref sol, .int 0, .ref bal, .ref leg])), (act, .inr (5, [.int 0, .ref en.2.2.1, .int 0]))] H := hP
    have hD : va_D A [(mm, .inr (24, [.int 0, .ref stu, .ref cla, .ref r_6, .ref act, .int 5, .int 50, .ref nts, .ref isn, .int 1600, .ref boa, .ref mas, .ref pai, .ref sol, .int 0, .ref bal, .ref leg])), (act, .inr (5, [.int 0, .ref en.2.2.1, .int 0]))] := hD
    have hR := en_R hR0 hN0 hS
    refine lv_aload_n hx hb dX18_keeps_61 rfl (lv_at hl 2 rfl) ?_
    refine va_get (D := (dC, dI)) (ci := 24) (v := .ref act) (C := RX18) (T := TX18) (N := 17) hx hb hts (by decide +kernel) hown hK hP 0 rfl rfl 4 (by decide) (hts (.fieldLink RX18 29 "UnderpaintModel" "acts" "Ljava/util/List;") (by decide +kernel)) (fun _ h9 => h9) rfl dX18_keeps_62 ?_
    refine lv_aload_n hx hb dX18_keeps_65 rfl (lv_at hl 3 rfl) ?_
    have hS9 := hS
    have hPc := (hP.app hR).sub (ws' := [(act, .inr (5, [.int 0, .ref en.2.2.1, .int 0]))] ++ [(ac, .inr (18, ([.int 121, .ref na])))]) [1, 5] rfl
    have hDc := (en_DD hD hDr hN0 hAb).sub (ws' := [(act, .inr (5, [.int 0, .ref en.2.2.1, .int 0]))] ++ [(ac, .inr (18, ([.int 121, .ref na])))]) [1, 5] (by decide) rfl
    have hKc := hK.sub (tys' := []) [] rfl
    have hFc := va_free (wc := [(act, .inr (5, [.int 0, .ref en.2.2.1, .int 0]))]) hD hS hA [1] rfl
    refine va_callFi (va_runF (As := [.ref ac]) (rest := []) (hK.1 5 _ rfl).2 ⟨hx, hb, hml, hown, hts⟩ (c_addo l dC dI b0 en H.size act ac 18 ([.int 121, .ref na]) (RX12, TX12, 2) rfl (by decide +kernel)) (va_cwF 1 hts go_c_keeps_y_3 rfl rfl rfl (hE.face ("java/util/ArrayList", ⟨"java/util/List", "add", "(Ljava/lang/Object;)Z"⟩, ⟨"java/util/ArrayList", "add", "(Ljava/lang/Object;)Z"⟩) (by decide +kernel)) (by decide +kernel) ⟨Nat.le_of_ble_eq_true rfl, Nat.le_of_ble_eq_true rfl⟩) ⟨cP.blind, va_recv hK hP (ci := 5) (q0 := 1) rfl rfl, cP.use (en_z hb0 hS) (hE.on hAb hS) hPc hKc hDc trivial⟩ rfl rfl hl.1 rfl (lv_room (Nat.le_of_ble_eq_true rfl)) dX18_keeps_66 ⟨Nat.le_of_ble_eq_true rfl, Nat.le_of_ble_eq_true rfl⟩) hS (fun q _ h => hFc q h) hFc (fun r_16 ⟨ar_13, cO_14, fO_15⟩ t H1 locs ht hvm hw hB hz1 hk1 hS => ?_)
    obtain ⟨hP1, hK1, hD1, hF1⟩ := hB
    rw [ht] at hP1
    try rw [ht] at hF1
    have hK1 := va_K.moved hvm.symm hK1
    try dsimp only at hw
    obtain ⟨hP, hD⟩ := va_join (wr := [(mm, .inr (24, [.int 0, .ref stu, .ref cla, .ref r_6, .ref act, .int 5, .int 50, .ref nts, .ref isn, .int 1600, .ref boa, .ref mas, .ref pai, .ref sol, .int 0, .ref bal, .ref leg]))]) (w1 := [(act, .inr (5, [.int 1, .ref ar_13, .int 1])), (ar_13, .inl (cO_14, 10, .inr (.inr (.inr (.inr fO_15)))))]) hP hD [1] [0] rfl rfl (by decide) (by decide) hk1 hFc hP1 hD1
    have hK := hK.app hK1
    skip
    skip
    have hgz_ar_13 : s.heap.size ≤ ar_13 := Nat.le_trans hS9.1 (vGeN hD1 1 rfl (by simp only [List.map_cons, List.map_nil, List.mem_cons, List.not_mem_nil, or_false, not_or, not_false_eq_true]; exact vAp hD1 1 0 rfl rfl (by decide)))
    generalize H1 = H at hP hS ⊢
    have hP : va_P (dC, dI) vwCl [(mm, .inr (24, [.int 0, .ref stu, .ref cla, .ref r_6, .ref act, .int 5, .int 50, .ref nts, .ref isn, .int 1600, .ref boa, .ref mas, .ref pai, .ref sol, .int 0, .ref bal, .ref leg])), (act, .inr (5, [.int 1, .ref ar_13, .int 1])), (ar_13, .inl (cO_14, 10, .inr (.inr (.inr (.inr fO_15)))))] H := hP
    have hD : va_D A [(mm, .inr (24, [.int 0, .ref stu, .ref cla, .ref r_6, .ref act, .int 5, .int 50, .ref nts, .ref isn, .int 1600, .ref boa, .ref mas, .ref pai, .ref sol, .int 0, .ref bal, .ref leg])), (act, .inr (5, [.int 1, .ref ar_13, .int 1])), (ar_13, .inl (cO_14, 10, .inr (.inr (.inr (.inr fO_15)))))] := hD
    have hR := en_R hR0 hN0 hS
    refine W.widen (k := 149) (n := 547) (Nat.le_of_ble_eq_true rfl) (Nat.le_of_ble_eq_true rfl) ?_
    subst r_16
    refine lv_pop hx hb dX18_keeps_71 rfl ?_
    refine lv_iload hx hb dX18_keeps_72 (lv_at hl 0 rfl) ?_
    refine W.widen (k := 149) (n := 547) (Nat.le_of_ble_eq_true rfl) (Nat.le_of_ble_eq_true rfl) ?_
    exact W.iret (v := (1600 + nI yy)) hx hb hr (fun t ht hW => ⟨⟨(1600 + nI yy), ⟨0, [.ref stu, .ref cla, .ref r_6, .ref act, .int 5, .int 50, .ref nts, .ref isn, .int 1600, .ref boa, .ref mas, .ref pai, .ref sol, .int 0, .ref bal, .ref leg]⟩, rfl, (z_c_keeps_y_167 fN yy hN hfN h_8 c_9), cB.mk ht hW (hP.sub [0] rfl) (hK.sub [] rfl) (hD.sub [0] (by decide) rfl) (trivial)⟩, hS.F ht⟩) hS.2.2 dX18_keeps_74
  · skip
    exact absurd (z_c_keeps_y_168 fN yy hN hfN h_8 c_9) (fun z => z)
theorem z_c_keeps_s_169 (fN : Nat → Int32) (a_0 : 0 ≤ fN 0) (a_1 : fN 0 < 48) : 0 ≤ fN 0 := by first | rfl | grind
theorem z_c_keeps_s_170 (fN : Nat → Int32) (a_0 : 0 ≤ fN 0) (a_1 : fN 0 < 48) : fN 0 < 48 := by first | rfl | grind
theorem z_c_keeps_s_171 (fN : Nat → Int32) (a_0 : 0 ≤ fN 0) (a_1 : fN 0 < 48) : (2 : Int32) = 2 := by first | rfl | grind
set_option maxRecDepth 100000 in
theorem gw_wsX18_fails : wsX18_fails.all goodWord = true := by decide +kernel
def wo_c_keeps_s_w : List Cond := [Cond.fieldLink RX18 25 "UnderpaintModel" "picture" "LUnderpaintModel$Picture;"]
def wo_c_keeps_s : List Cond := .code yX18_keeps cX18_keeps 5 (some .int) :: (wo_c_keeps_s_w ++ (u_ws RX18 TX18 17 ++ (wsV RX18 111 RX14 yX14_copy wsX14_copy ++ (wsV RX18 115 RX14 yX14_does wo_c_does_s ++ (wsV RX18 88 RX18 yX18_fails wsX18_fails ++ List.nil)))))
theorem gw_wo_c_keeps_s : wo_c_keeps_s.all goodWord = true := gw_c (by decide +kernel) (gw_a (by decide +kernel) (gw_a (by decide +kernel) (gw_a (gw_a (by decide +kernel) gw_wsX14_copy) (gw_a (gw_a (by decide +kernel) gw_wo_c_does_s) (gw_a (gw_a (by decide +kernel) gw_wsX18_fails) rfl)))))
theorem go_c_keeps_s_0 : GoodIn wo_c_keeps_s (wsV RX18 111 RX14 yX14_copy wsX14_copy) := goodIn_sub (fun _ h => List.mem_cons_of_mem _ (List.mem_append_right _ (List.mem_append_right _ (List.mem_append_left _ h)))) (gw_a (by decide +kernel) gw_wsX14_copy)
theorem go_c_keeps_s_1 : GoodIn wo_c_keeps_s (wsV RX18 115 RX14 yX14_does wo_c_does_s) := goodIn_sub (fun _ h => List.mem_cons_of_mem _ (List.mem_append_right _ (List.mem_append_right _ (List.mem_append_right _ (List.mem_append_left _ h))))) (gw_a (by decide +kernel) gw_wo_c_does_s)
theorem go_c_keeps_s_2 : GoodIn wo_c_keeps_s (wsV RX18 88 RX18 yX18_fails wsX18_fails) := goodIn_sub (fun _ h => List.mem_cons_of_mem _ (List.mem_append_right _ (List.mem_append_right _ (List.mem_append_right _ (List.mem_append_right _ (List.mem_append_left _ h)))))) (gw_a (by decide +kernel) gw_wsX18_fails)
set_option maxHeartbeats 4000000 in
set_option maxRecDepth 100000 in
/-- keeps -/
theorem c_keeps_s (l : Launch) (dC : Nat → ClassId) (dI : Nat → Nat → Nat) (b0 : Nat) (en : EnT) (sz : Nat) (mm stu cla pic act nts isn boa mas pai sol bal leg : Nat) (ap scr : Nat) (g : Nat → Option Nat) (kP : ClassId) (N : Nat → Prop) (ac na : Nat) (kA : ClassId) (fN : Nat → Int32) (hNb : ∀ a, N a → b0 ≤ a ∧ a < sz) (hNw : ∀ a, N a → a ∉ List.map Prod.fst ([(mm, .inr (24, [.int 0, .ref stu, .ref cla, .ref pic, .ref act, .int 5, .int 50, .ref nts, .ref isn, .int 1600, .ref boa, .ref mas, .ref pai, .ref sol, .int 0, .ref bal, .ref leg])), (act, .inr (5, [.int 0, .ref en.2.2.1, .int 0]))] : va_W)) (hNr : ∀ a, N a → a ∉ List.map Prod.fst ([(pic, .inr (20, [.ref ap, .ref scr, .int 1600, .int 0, .int 0, .ref mm])), (ap, .inl (kP, 48, .inr (.inr (.inr (.inr g))))), (scr, .inr (5, [.int 0, .ref en.2.2.1, .int 0])), (ac, .inr (18, [.int 115, .ref na])), (na, .inl (kA, 2, .inl fN))] : va_W)) (h0 : 0 ≤ fN 0) (h1 : fN 0 < 48) : Met l yX18_keeps wo_c_keeps_s ({ frames := 7, cells := 148, slots := 537, locals := 158 } : Room) (cP b0 en (dC, dI) [(kP, .object "UnderpaintModel$Place"), (kA, .int)] [(mm, .inr (24, [.int 0, .ref stu, .ref cla, .ref pic, .ref act, .int 5, .int 50, .ref nts, .ref isn, .int 1600, .ref boa, .ref mas, .ref pai, .ref sol, .int 0, .ref bal, .ref leg])), (act, .inr (5, [.int 0, .ref en.2.2.1, .int 0]))] [(pic, .inr (20, [.ref ap, .ref scr, .int 1600, .int 0, .int 0, .ref mm])), (ap, .inl (kP, 48, .inr (.inr (.inr (.inr g))))), (scr, .inr (5, [.int 0, .ref en.2.2.1, .int 0])), (ac, .inr (18, [.int 115, .ref na])), (na, .inl (kA, 2, .inl fN))] sz (FamP (dC, dI) N en.2.2.1 g) [.ref mm, .ref ac, .int 2]) (va_Qi (fun (r : Int32) (u : Int32 × List Value) => u.1 = 2) (fun u t => cB (dC, dI) [] [(mm, .inr (24, .int u.1 :: u.2))] (va_A [(mm, .inr (24, [.int 0, .ref stu, .ref cla, .ref pic, .ref act, .int 5, .int 50, .ref nts, .ref isn, .int 1600, .ref boa, .ref mas, .ref pai, .ref sol, .int 0, .ref bal, .ref leg])), (act, .inr (5, [.int 0, .ref en.2.2.1, .int 0]))] sz) (fun _ => True) t) (va_A [(mm, .inr (24, [.int 0, .ref stu, .ref cla, .ref pic, .ref act, .int 5, .int 50, .ref nts, .ref isn, .int 1600, .ref boa, .ref mas, .ref pai, .ref sol, .int 0, .ref bal, .ref leg])), (act, .inr (5, [.int 0, .ref en.2.2.1, .int 0]))] sz)) 148 537 (va_A [(mm, .inr (24, [.int 0, .ref stu, .ref cla, .ref pic, .ref act, .int 5, .int 50, .ref nts, .ref isn, .int 1600, .ref boa, .ref mas, .ref pai, .ref sol, .int 0, .ref bal, .ref leg])), (act, .inr (5, [.int 0, .ref en.2.2.1, .int 0]))] sz) := by
  refine Met.ofW (cc := cX18_keeps) (maxL := 5) (ret := (some .int)) (by decide) rfl ?_
  intro p e s m args below meth c s₁ B hml hv
  obtain ⟨rfl, hsz, hb0, hE, hPP, hK, hDD, hF0⟩ := hv
  have hx := B.exec
  have hb := B.bytes
  have hr := B.returns
  have hts := atoms_spec (ws := wo_c_keeps_s) B.pre
  have hown : s.vm.findClass RX18 = some m.cls := findClass_of_methodNamed B.named
  have hlocks := B.notSynchronized
  subst hsz
  have hN0 := en_N hPP hDD rfl
  have hP : va_P (dC, dI) vwCl [(mm, .inr (24, [.int 0, .ref stu, .ref cla, .ref pic, .ref act, .int 5, .int 50, .ref nts, .ref isn, .int 1600, .ref boa, .ref mas, .ref pai, .ref sol, .int 0, .ref bal, .ref leg])), (act, .inr (5, [.int 0, .ref en.2.2.1, .int 0]))] s.heap := hPP.sub [0, 1] rfl
  have hR0 : va_P (dC, dI) vwCl [(pic, .inr (20, [.ref ap, .ref scr, .int 1600, .int 0, .int 0, .ref mm])), (ap, .inl (kP, 48, .inr (.inr (.inr (.inr g))))), (scr, .inr (5, [.int 0, .ref en.2.2.1, .int 0])), (ac, .inr (18, [.int 115, .ref na])), (na, .inl (kA, 2, .inl fN))] s.heap := hPP.sub [2, 3, 4, 5, 6] rfl
  have hD0 : va_D (fun q => b0 ≤ q) [(mm, .inr (24, [.int 0, .ref stu, .ref cla, .ref pic, .ref act, .int 5, .int 50, .ref nts, .ref isn, .int 1600, .ref boa, .ref mas, .ref pai, .ref sol, .int 0, .ref bal, .ref leg])), (act, .inr (5, [.int 0, .ref en.2.2.1, .int 0]))] := hDD.sub [0, 1] (by decide) rfl
  have hDr : va_D (fun q => b0 ≤ q) [(pic, .inr (20, [.ref ap, .ref scr, .int 1600, .int 0, .int 0, .ref mm])), (ap, .inl (kP, 48, .inr (.inr (.inr (.inr g))))), (scr, .inr (5, [.int 0, .ref en.2.2.1, .int 0])), (ac, .inr (18, [.int 115, .ref na])), (na, .inl (kA, 2, .inl fN))] := hDD.sub [2, 3, 4, 5, 6] (by decide) rfl
  have hAb := en_A (sz := s.heap.size) hD0 hb0
  have hD := hD0.self (sz := s.heap.size)
  generalize hAe : va_A [(mm, .inr (24, [.int 0, .ref stu, .ref cla, .ref pic, .ref act, .int 5, .int 50, .ref nts, .ref isn, .int 1600, .ref boa, .ref mas, .ref pai, .ref sol, .int 0, .ref bal, .ref leg])), (act, .inr (5, [.int 0, .ref en.2.2.1, .int 0]))] s.heap.size = A at hD hAb hN0 ⊢
  have hA : ∀ q : Nat, s.heap.size ≤ q → A q := fun q h => by rw [← hAe]; exact Or.inr h
  have hS : va_S A s.heap s.heap [] := va_S.rf
  have hR := hR0
  have hl := lv_entry [.ref mm, .ref ac, .int 2] (n := 5) (Nat.le_of_ble_eq_true rfl)
  rw [lg_entry_eq]
  generalize (lg_sl [.ref mm, .ref ac, .int 2] ++ List.replicate (5 - (lg_sl [.ref mm, .ref ac, .int 2]).length) Slot.unset).toArray = ls at hl ⊢
  have hl : lv_has ls 5 [(0, .ref mm), (1, .ref ac), (2, .int 2)] := hl
  have hAc := hA
  have hlt_mm : mm < s.heap.size := (hPP 0 _ rfl).lt
  have hlt_act : act < s.heap.size := (hPP 1 _ rfl).lt
  have hlt_pic : pic < s.heap.size := (hPP 2 _ rfl).lt
  have hlt_ap : ap < s.heap.size := (hPP 3 _ rfl).lt
  have hlt_scr : scr < s.heap.size := (hPP 4 _ rfl).lt
  have hlt_ac : ac < s.heap.size := (hPP 5 _ rfl).lt
  have hlt_na : na < s.heap.size := (hPP 6 _ rfl).lt
  have hR0b := hR0
  have hDrb := hDr
  have hN0b := hN0
  refine lv_aload_n hx hb dX18_keeps_0 rfl (lv_at hl 0 rfl) ?_
  refine va_get (D := (dC, dI)) (ci := 24) (v := .ref pic) (C := RX18) (T := TX18) (N := 17) hx hb hts (by decide +kernel) hown hK hP 0 rfl rfl 3 (by decide) (hts (.fieldLink RX18 25 "UnderpaintModel" "picture" "LUnderpaintModel$Picture;") (by decide +kernel)) (fun _ h9 => h9) rfl dX18_keeps_1 ?_
  have hS9 := hS
  have hPc := (hP.app hR).sub (ws' := [] ++ [(pic, .inr (20, [.ref ap, .ref scr, .int 1600, .int 0, .int 0, .ref mm])), (ap, .inl (kP, 48, .inr (.inr (.inr (.inr g))))), (scr, .inr (5, [.int 0, .ref en.2.2.1, .int 0]))]) [2, 3, 4] rfl
  have hDc := (en_DD hD hDr hN0 hAb).sub (ws' := [] ++ [(pic, .inr (20, [.ref ap, .ref scr, .int 1600, .int 0, .int 0, .ref mm])), (ap, .inl (kP, 48, .inr (.inr (.inr (.inr g))))), (scr, .inr (5, [.int 0, .ref en.2.2.1, .int 0]))]) [2, 3, 4] (by decide) rfl
  have hKc := hK.sub (tys' := [(kP, .object "UnderpaintModel$Place")]) [0] rfl
  have hFc := va_free (wc := []) hD hS hA [] rfl
  refine va_callr (va_runV (As := []) (rest := []) ⟨hx, hb, hml, hown, hts⟩ (c_X14_copy l dC dI b0 en s.heap.size pic ap scr mm g kP N (fun a9 h9 => ⟨(hNb a9 h9).1, Nat.lt_of_lt_of_le (hNb a9 h9).2 hS.1⟩) (fun a9 h9 z9 => by have g1 := hNw a9 h9; have g2 := hNr a9 h9; have g3 := (hNb a9 h9).2; simp only [List.map_cons, List.map_nil, List.mem_cons, List.not_mem_nil, or_false, not_or] at g1 g2 z9 <;> omega) (fun a9 h9 z9 => by have g1 := hNw a9 h9; have g2 := hNr a9 h9; have g3 := (hNb a9 h9).2; simp only [List.map_cons, List.map_nil, List.mem_cons, List.not_mem_nil, or_false, not_or] at g1 g2 z9 <;> omega)) (cwV 0 hts go_c_keeps_s_0 rfl rfl rfl (by decide +kernel) ⟨Nat.le_of_ble_eq_true rfl, Nat.le_of_ble_eq_true rfl⟩) ⟨cP.blind, va_recv hK hR (ci := 20) (q0 := 0) rfl rfl, cP.use (en_z hb0 hS) (hE.on hAb hS) hPc hKc hDc (hF0.on (fun a9 h8 h9 => by rw [← hAe]; exact vA1 h8 (hNw a9 h9)) hS)⟩ rfl rfl hl.1 rfl (lv_room (Nat.le_of_ble_eq_true rfl)) dX18_keeps_4 ⟨Nat.le_of_ble_eq_true rfl, Nat.le_of_ble_eq_true rfl⟩) hS (fun q _ h => hFc q h) hFc (fun ⟨ap2_2, sc2_3, kQ_4, g2_5⟩ r_6 t H1 locs ht hvm hw hB hz1 hk1 hS => ?_)
  obtain ⟨hP1, hK1, hD1, hF1⟩ := hB
  rw [ht] at hP1
  try rw [ht] at hF1
  have hK1 := va_K.moved hvm.symm hK1
  try dsimp only at hw
  obtain ⟨hP, hD⟩ := va_join (wr := [(mm, .inr (24, [.int 0, .ref stu, .ref cla, .ref pic, .ref act, .int 5, .int 50, .ref nts, .ref isn, .int 1600, .ref boa, .ref mas, .ref pai, .ref sol, .int 0, .ref bal, .ref leg])), (act, .inr (5, [.int 0, .ref en.2.2.1, .int 0]))]) (w1 := [(r_6, .inr (20, [.ref ap2_2, .ref sc2_3, .int 1600, .int 0, .int 0, .ref mm])), (ap2_2, .inl (kQ_4, 48, .inr (.inr (.inr (.inr g2_5))))), (sc2_3, .inr (5, [.int 1, .ref en.2.2.1, .int 0]))]) hP hD [] [0, 1] rfl rfl (by decide) (by decide) hk1 hFc hP1 hD1
  have hK := hK.app hK1
  have hG : FamP (dC, dI) (vN s.heap.size [r_6, ap2_2, sc2_3]) en.2.2.1 g2_5 H1 := FamP.mono hF1 (fun a9 h9 => ⟨Nat.le_trans hS9.1 h9.1, h9.2⟩)
  have hge_r_6 : s.heap.size ≤ r_6 := Nat.le_trans hS9.1 (vGe hD1 0 rfl)
  have hge_ap2_2 : s.heap.size ≤ ap2_2 := Nat.le_trans hS9.1 (vGe hD1 1 rfl)
  have hge_sc2_3 : s.heap.size ≤ sc2_3 := Nat.le_trans hS9.1 (vGe hD1 2 rfl)
  have hgz_r_6 : s.heap.size ≤ r_6 := Nat.le_trans hS9.1 (vGeN hD1 0 rfl (by simp only [List.map_cons, List.map_nil, List.mem_cons, List.not_mem_nil, or_false, not_or, not_false_eq_true]))
  have hgz_ap2_2 : s.heap.size ≤ ap2_2 := Nat.le_trans hS9.1 (vGeN hD1 1 rfl (by simp only [List.map_cons, List.map_nil, List.mem_cons, List.not_mem_nil, or_false, not_or, not_false_eq_true]))
  have hgz_sc2_3 : s.heap.size ≤ sc2_3 := Nat.le_trans hS9.1 (vGeN hD1 2 rfl (by simp only [List.map_cons, List.map_nil, List.mem_cons, List.not_mem_nil, or_false, not_or, not_false_eq_true]))
  generalize H1 = H at hP hS hG ⊢
  have hP : va_P (dC, dI) vwCl [(mm, .inr (24, [.int 0, .ref stu, .ref cla, .ref pic, .ref act, .int 5, .int 50, .ref nts, .ref isn, .int 1600, .ref boa, .ref mas, .ref pai, .ref sol, .int 0, .ref bal, .ref leg])), (act, .inr (5, [.int 0, .ref en.2.2.1, .int 0])), (r_6, .inr (20, [.ref ap2_2, .ref sc2_3, .int 1600, .int 0, .int 0, .ref mm])), (ap2_2, .inl (kQ_4, 48, .inr (.inr (.inr (.inr g2_5))))), (sc2_3, .inr (5, [.int 1, .ref en.2.2.1, .int 0]))] H := hP
  have hD : va_D A [(mm, .inr (24, [.int 0, .ref stu, .ref cla, .ref pic, .ref act, .int 5, .int 50, .ref nts, .ref isn, .int 1600, .ref boa, .ref mas, .ref pai, .ref sol, .int 0, .ref bal, .ref leg])), (act, .inr (5, [.int 0, .ref en.2.2.1, .int 0])), (r_6, .inr (20, [.ref ap2_2, .ref sc2_3, .int 1600, .int 0, .int 0, .ref mm])), (ap2_2, .inl (kQ_4, 48, .inr (.inr (.inr (.inr g2_5))))), (sc2_3, .inr (5, [.int 1, .ref en.2.2.1, .int 0]))] := hD
  have hR := en_R hR0 hN0 hS
  refine W.widen (k := 148) (n := 537) (Nat.le_of_ble_eq_true rfl) (Nat.le_of_ble_eq_true rfl) ?_
  refine lv_astore_n (lv' := [(3, .ref r_6), (0, .ref mm), (1, .ref ac), (2, .int 2)]) hx hb dX18_keeps_7 rfl hl (by decide) rfl (fun ls hl => ?_)
  refine lv_aload_n hx hb dX18_keeps_8 rfl (lv_at hl 0 rfl) ?_
  refine lv_aload_n hx hb dX18_keeps_9 rfl (lv_at hl 2 rfl) ?_
  have hPc := (hP.app hR).sub (ws' := [(r_6, .inr (20, [.ref ap2_2, .ref sc2_3, .int 1600, .int 0, .int 0, .ref mm])), (ap2_2, .inl (kQ_4, 48, .inr (.inr (.inr (.inr g2_5))))), (sc2_3, .inr (5, [.int 1, .ref en.2.2.1, .int 0]))] ++ [(ac, .inr (18, [.int 115, .ref na])), (na, .inl (kA, 2, .inl fN))]) [2, 3, 4, 8, 9] rfl
  have hDc := (en_DD hD hDr hN0 hAb).sub (ws' := [(r_6, .inr (20, [.ref ap2_2, .ref sc2_3, .int 1600, .int 0, .int 0, .ref mm])), (ap2_2, .inl (kQ_4, 48, .inr (.inr (.inr (.inr g2_5))))), (sc2_3, .inr (5, [.int 1, .ref en.2.2.1, .int 0]))] ++ [(ac, .inr (18, [.int 115, .ref na])), (na, .inl (kA, 2, .inl fN))]) [2, 3, 4, 8, 9] (by decide) rfl
  have hKc := hK.sub (tys' := [(kQ_4, .object "UnderpaintModel$Place"), (kA, .int)]) [2, 1] rfl
  have hFc : ∀ q, vC s.heap.size q → A q := fun q h => hAc q h
  refine va_calli (va_runV (As := [.ref ac]) (rest := []) ⟨hx, hb, hml, hown, hts⟩ (c_does_s l dC dI b0 en H.size r_6 ap2_2 sc2_3 mm s.heap.size kQ_4 g2_5 ac na kA fN (z_c_keeps_s_169 fN h0 h1) (z_c_keeps_s_170 fN h0 h1) hb0 hS.1 (vW1 (by first | exact hge_r_6 | exact hc0_r_6 | omega) (vW1 (by first | exact hge_ap2_2 | exact hc0_ap2_2 | omega) (vW1 (by first | exact hge_sc2_3 | exact hc0_sc2_3 | omega) vW0))) (vL1 (by first | exact hlt_ac | omega) (vL1 (by first | exact hlt_na | omega) vL0))) (cwV 1 hts go_c_keeps_s_1 rfl rfl rfl (by decide +kernel) ⟨Nat.le_of_ble_eq_true rfl, Nat.le_of_ble_eq_true rfl⟩) ⟨cP.blind, va_recv hK hP (ci := 20) (q0 := 2) rfl rfl, cP.use (en_z hb0 hS) (hE.on hAb hS) hPc hKc hDc hG⟩ rfl rfl hl.1 rfl (lv_room (Nat.le_of_ble_eq_true rfl)) dX18_keeps_10 ⟨Nat.le_of_ble_eq_true rfl, Nat.le_of_ble_eq_true rfl⟩) hS (fun q _ h => hFc q h) hFc (fun r_7 u t H1 locs ht hvm hw hB hz1 hk1 hS => ?_)
  obtain ⟨hP1, hK1, hD1, hF1⟩ := hB
  rw [ht] at hP1
  try rw [ht] at hF1
  have hK1 := va_K.moved hvm.symm hK1
  try dsimp only at hw
  have hLk : ∀ (k9 : Nat) (q9 : Nat × va_E), ([(mm, .inr (24, [.int 0, .ref stu, .ref cla, .ref pic, .ref act, .int 5, .int 50, .ref nts, .ref isn, .int 1600, .ref boa, .ref mas, .ref pai, .ref sol, .int 0, .ref bal, .ref leg])), (act, .inr (5, [.int 0, .ref en.2.2.1, .int 0]))] : va_W)[k9]? = some q9 → q9.1 < s.heap.size := (vL1 (by first | exact hlt_mm | omega) (vL1 (by first | exact hlt_act | omega) vL0))
  have hP := (vC_kept (hP.sub (ws' := [(mm, .inr (24, [.int 0, .ref stu, .ref cla, .ref pic, .ref act, .int 5, .int 50, .ref nts, .ref isn, .int 1600, .ref boa, .ref mas, .ref pai, .ref sol, .int 0, .ref bal, .ref leg])), (act, .inr (5, [.int 0, .ref en.2.2.1, .int 0]))]) [0, 1] rfl) hLk hk1).app hP1
  have hD := vC_app (hD.sub (ws' := [(mm, .inr (24, [.int 0, .ref stu, .ref cla, .ref pic, .ref act, .int 5, .int 50, .ref nts, .ref isn, .int 1600, .ref boa, .ref mas, .ref pai, .ref sol, .int 0, .ref bal, .ref leg])), (act, .inr (5, [.int 0, .ref en.2.2.1, .int 0]))]) [0, 1] (by decide) rfl) hLk hD1 hAc
  generalize H1 = H at hP hS ⊢
  have hP : va_P (dC, dI) vwCl [(mm, .inr (24, [.int 0, .ref stu, .ref cla, .ref pic, .ref act, .int 5, .int 50, .ref nts, .ref isn, .int 1600, .ref boa, .ref mas, .ref pai, .ref sol, .int 0, .ref bal, .ref leg])), (act, .inr (5, [.int 0, .ref en.2.2.1, .int 0]))] H := hP
  have hD : va_D A [(mm, .inr (24, [.int 0, .ref stu, .ref cla, .ref pic, .ref act, .int 5, .int 50, .ref nts, .ref isn, .int 1600, .ref boa, .ref mas, .ref pai, .ref sol, .int 0, .ref bal, .ref leg])), (act, .inr (5, [.int 0, .ref en.2.2.1, .int 0]))] := hD
  have hR := en_R hR0 hN0 hS
  refine W.widen (k := 148) (n := 537) (Nat.le_of_ble_eq_true rfl) (Nat.le_of_ble_eq_true rfl) ?_
  subst r_7
  refine lv_istore (lv' := [(4, .int (-1)), (3, .ref r_6), (0, .ref mm), (1, .ref ac), (2, .int 2)]) hx hb dX18_keeps_13 hl (by decide) rfl (fun ls hl => ?_)
  refine lv_iload hx hb dX18_keeps_15 (lv_at hl 0 rfl) ?_
  refine lv_iconst (v := (-1)) hx hb dX18_keeps_17 (by decide) ?_
  refine lv_icmp_ne (tgt := 31) hx hb dX18_keeps_18 (by decide) (fun c_8 => absurd c_8 (by decide)) (fun c_8 => ?_)
  refine lv_iload_n hx hb dX18_keeps_21 rfl (lv_at hl 4 rfl) ?_
  refine lv_if_le (tgt := 31) hx hb dX18_keeps_22 (by decide) (fun c_9 => absurd c_9 (by decide)) (fun c_9 => ?_)
  refine lv_aload_n hx hb dX18_keeps_25 rfl (lv_at hl 2 rfl) ?_
  refine lv_iload_n hx hb dX18_keeps_26 rfl (lv_at hl 4 rfl) ?_
  have hPc := (hP.app hR).sub (ws' := [(mm, .inr (24, .int 0 :: ([.ref stu, .ref cla, .ref pic, .ref act, .int 5, .int 50, .ref nts, .ref isn, .int 1600, .ref boa, .ref mas, .ref pai, .ref sol, .int 0, .ref bal, .ref leg])))] ++ []) [0] rfl
  have hDc := (en_DD hD hDr hN0 hAb).sub (ws' := [(mm, .inr (24, .int 0 :: ([.ref stu, .ref cla, .ref pic, .ref act, .int 5, .int 50, .ref nts, .ref isn, .int 1600, .ref boa, .ref mas, .ref pai, .ref sol, .int 0, .ref bal, .ref leg])))] ++ []) [0] (by decide) rfl
  have hKc := hK.sub (tys' := []) [] rfl
  have hFc := va_free (wc := [(mm, .inr (24, .int 0 :: ([.ref stu, .ref cla, .ref pic, .ref act, .int 5, .int 50, .ref nts, .ref isn, .int 1600, .ref boa, .ref mas, .ref pai, .ref sol, .int 0, .ref bal, .ref leg])))]) hD hS hA [0] rfl
  refine va_calli (va_runV (As := [.int 2]) (rest := []) ⟨hx, hb, hml, hown, hts⟩ (c_X18_fails l dC dI b0 en H.size mm 0 2 ([.ref stu, .ref cla, .ref pic, .ref act, .int 5, .int 50, .ref nts, .ref isn, .int 1600, .ref boa, .ref mas, .ref pai, .ref sol, .int 0, .ref bal, .ref leg])) (cwV 1 hts go_c_keeps_s_2 rfl rfl rfl (by decide +kernel) ⟨Nat.le_of_ble_eq_true rfl, Nat.le_of_ble_eq_true rfl⟩) ⟨cP.blind, va_recv hK hP (ci := 24) (q0 := 0) rfl rfl, cP.use (en_z hb0 hS) (hE.on hAb hS) hPc hKc hDc trivial⟩ rfl rfl hl.1 rfl (lv_room (Nat.le_of_ble_eq_true rfl)) dX18_keeps_27 ⟨Nat.le_of_ble_eq_true rfl, Nat.le_of_ble_eq_true rfl⟩) hS (fun q _ h => hFc q h) hFc (fun r_10 u t H1 locs ht hvm hw hB hz1 hk1 hS => ?_)
  obtain ⟨hP1, hK1, hD1, hF1⟩ := hB
  rw [ht] at hP1
  try rw [ht] at hF1
  have hK1 := va_K.moved hvm.symm hK1
  try dsimp only at hw
  obtain ⟨hP, hD⟩ := va_join (wr := [(act, .inr (5, [.int 0, .ref en.2.2.1, .int 0]))]) (w1 := [(mm, .inr (24, [.int 2, .ref stu, .ref cla, .ref pic, .ref act, .int 5, .int 50, .ref nts, .ref isn, .int 1600, .ref boa, .ref mas, .ref pai, .ref sol, .int 0, .ref bal, .ref leg]))]) hP hD [0] [1] rfl rfl (by decide) (by decide) hk1 hFc hP1 hD1
  skip
  generalize H1 = H at hP hS ⊢
  have hP : va_P (dC, dI) vwCl [(act, .inr (5, [.int 0, .ref en.2.2.1, .int 0])), (mm, .inr (24, [.int 2, .ref stu, .ref cla, .ref pic, .ref act, .int 5, .int 50, .ref nts, .ref isn, .int 1600, .ref boa, .ref mas, .ref pai, .ref sol, .int 0, .ref bal, .ref leg]))] H := hP
  have hD : va_D A [(act, .inr (5, [.int 0, .ref en.2.2.1, .int 0])), (mm, .inr (24, [.int 2, .ref stu, .ref cla, .ref pic, .ref act, .int 5, .int 50, .ref nts, .ref isn, .int 1600, .ref boa, .ref mas, .ref pai, .ref sol, .int 0, .ref bal, .ref leg]))] := hD
  have hR := en_R hR0 hN0 hS
  refine W.widen (k := 148) (n := 537) (Nat.le_of_ble_eq_true rfl) (Nat.le_of_ble_eq_true rfl) ?_
  subst r_10
  refine W.widen (k := 148) (n := 537) (Nat.le_of_ble_eq_true rfl) (Nat.le_of_ble_eq_true rfl) ?_
  exact W.iret (v := 0) hx hb hr (fun t ht hW => ⟨⟨0, ⟨2, [.ref stu, .ref cla, .ref pic, .ref act, .int 5, .int 50, .ref nts, .ref isn, .int 1600, .ref boa, .ref mas, .ref pai, .ref sol, .int 0, .ref bal, .ref leg]⟩, rfl, (z_c_keeps_s_171 fN h0 h1), cB.mk ht hW (hP.sub [1] rfl) (hK.sub [] rfl) (hD.sub [1] (by decide) rfl) (trivial)⟩, hS.F ht⟩) hS.2.2 dX18_keeps_30
theorem z_c_keeps_g_172 (fN : Nat → Int32) (a_0 : 0 ≤ fN 0) (a_1 : fN 0 < 48) : (0 : Int32) = 0 ∧ (0 : Int32) = 0 := by first | rfl | grind
def wo_c_keeps_g_w : List Cond := [Cond.fieldLink RX18 25 "UnderpaintModel" "picture" "LUnderpaintModel$Picture;", Cond.fieldLink RX18 29 "UnderpaintModel" "acts" "Ljava/util/List;"]
def wo_c_keeps_g : List Cond := .code yX18_keeps cX18_keeps 5 (some .int) :: (wo_c_keeps_g_w ++ (u_ws RX18 TX18 17 ++ (wsV RX18 111 RX14 yX14_copy wsX14_copy ++ (wsV RX18 115 RX14 yX14_does wo_c_does_g ++ (va_wsF RX18 74 RJx4a65c ⟨"java/util/List", "size", "()I"⟩ yJx4a65c_size_8abf5 wsJx4a65c_size_8abf5 ++ (va_wsF RX18 96 RJx4a65c ⟨"java/util/List", "add", "(Ljava/lang/Object;)Z"⟩ yJx4a65c_add_9ea2d wsJx4a65c_add_9ea2d ++ List.nil))))))
theorem gw_wo_c_keeps_g : wo_c_keeps_g.all goodWord = true := gw_c (by decide +kernel) (gw_a (by decide +kernel) (gw_a (by decide +kernel) (gw_a (gw_a (by decide +kernel) gw_wsX14_copy) (gw_a (gw_a (by decide +kernel) gw_wo_c_does_g) (gw_a (gw_a (by decide +kernel) gw_wsJx4a65c_size_8abf5) (gw_a (gw_a (by decide +kernel) gw_wsJx4a65c_add_9ea2d) rfl))))))
theorem go_c_keeps_g_0 : GoodIn wo_c_keeps_g (wsV RX18 111 RX14 yX14_copy wsX14_copy) := goodIn_sub (fun _ h => List.mem_cons_of_mem _ (List.mem_append_right _ (List.mem_append_right _ (List.mem_append_left _ h)))) (gw_a (by decide +kernel) gw_wsX14_copy)
theorem go_c_keeps_g_1 : GoodIn wo_c_keeps_g (wsV RX18 115 RX14 yX14_does wo_c_does_g) := goodIn_sub (fun _ h => List.mem_cons_of_mem _ (List.mem_append_right _ (List.mem_append_right _ (List.mem_append_right _ (List.mem_append_left _ h))))) (gw_a (by decide +kernel) gw_wo_c_does_g)
theorem go_c_keeps_g_2 : GoodIn wo_c_keeps_g (va_wsF RX18 74 RJx4a65c ⟨"java/util/List", "size", "()I"⟩ yJx4a65c_size_8abf5 wsJx4a65c_size_8abf5) := goodIn_sub (fun _ h => List.mem_cons_of_mem _ (List.mem_append_right _ (List.mem_append_right _ (List.mem_append_right _ (List.mem_append_right _ (List.mem_append_left _ h)))))) (gw_a (by decide +kernel) gw_wsJx4a65c_size_8abf5)
theorem go_c_keeps_g_3 : GoodIn wo_c_keeps_g (va_wsF RX18 96 RJx4a65c ⟨"java/util/List", "add", "(Ljava/lang/Object;)Z"⟩ yJx4a65c_add_9ea2d wsJx4a65c_add_9ea2d) := goodIn_sub (fun _ h => List.mem_cons_of_mem _ (List.mem_append_right _ (List.mem_append_right _ (List.mem_append_right _ (List.mem_append_right _ (List.mem_append_right _ (List.mem_append_left _ h))))))) (gw_a (by decide +kernel) gw_wsJx4a65c_add_9ea2d)
set_option maxHeartbeats 4000000 in
set_option maxRecDepth 100000 in
/-- keeps -/
theorem c_keeps_g (l : Launch) (dC : Nat → ClassId) (dI : Nat → Nat → Nat) (b0 : Nat) (en : EnT) (sz : Nat) (mm stu cla pic act nts isn boa mas pai sol bal leg : Nat) (ap scr : Nat) (g : Nat → Option Nat) (kP : ClassId) (N : Nat → Prop) (ac na : Nat) (kA : ClassId) (fN : Nat → Int32) (hNb : ∀ a, N a → b0 ≤ a ∧ a < sz) (hNw : ∀ a, N a → a ∉ List.map Prod.fst ([(mm, .inr (24, [.int 0, .ref stu, .ref cla, .ref pic, .ref act, .int 5, .int 50, .ref nts, .ref isn, .int 1600, .ref boa, .ref mas, .ref pai, .ref sol, .int 0, .ref bal, .ref leg])), (act, .inr (5, [.int 0, .ref en.2.2.1, .int 0]))] : va_W)) (hNr : ∀ a, N a → a ∉ List.map Prod.fst ([(pic, .inr (20, [.ref ap, .ref scr, .int 1600, .int 0, .int 0, .ref mm])), (ap, .inl (kP, 48, .inr (.inr (.inr (.inr g))))), (scr, .inr (5, [.int 0, .ref en.2.2.1, .int 0])), (ac, .inr (18, [.int 103, .ref na])), (na, .inl (kA, 1, .inl fN))] : va_W)) (h0 : 0 ≤ fN 0) (h1 : fN 0 < 48) : Met l yX18_keeps wo_c_keeps_g ({ frames := 7, cells := 149, slots := 547, locals := 158 } : Room) (cP b0 en (dC, dI) [(kP, .object "UnderpaintModel$Place"), (kA, .int)] [(mm, .inr (24, [.int 0, .ref stu, .ref cla, .ref pic, .ref act, .int 5, .int 50, .ref nts, .ref isn, .int 1600, .ref boa, .ref mas, .ref pai, .ref sol, .int 0, .ref bal, .ref leg])), (act, .inr (5, [.int 0, .ref en.2.2.1, .int 0]))] [(pic, .inr (20, [.ref ap, .ref scr, .int 1600, .int 0, .int 0, .ref mm])), (ap, .inl (kP, 48, .inr (.inr (.inr (.inr g))))), (scr, .inr (5, [.int 0, .ref en.2.2.1, .int 0])), (ac, .inr (18, [.int 103, .ref na])), (na, .inl (kA, 1, .inl fN))] sz (FamP (dC, dI) N en.2.2.1 g) [.ref mm, .ref ac, .int (-1)]) (va_Qi (fun (r : Int32) (u : Int32 × List Value) => u.1 = 0 ∧ r = 0) (fun u t => cB (dC, dI) [] [(mm, .inr (24, .int u.1 :: u.2))] (va_A [(mm, .inr (24, [.int 0, .ref stu, .ref cla, .ref pic, .ref act, .int 5, .int 50, .ref nts, .ref isn, .int 1600, .ref boa, .ref mas, .ref pai, .ref sol, .int 0, .ref bal, .ref leg])), (act, .inr (5, [.int 0, .ref en.2.2.1, .int 0]))] sz) (fun _ => True) t) (va_A [(mm, .inr (24, [.int 0, .ref stu, .ref cla, .ref pic, .ref act, .int 5, .int 50, .ref nts, .ref isn, .int 1600, .ref boa, .ref mas, .ref pai, .ref sol, .int 0, .ref bal, .ref leg])), (act, .inr (5, [.int 0, .ref en.2.2.1, .int 0]))] sz)) 149 547 (va_A [(mm, .inr (24, [.int 0, .ref stu, .ref cla, .ref pic, .ref act, .int 5, .int 50, .ref nts, .ref isn, .int 1600, .ref boa, .ref mas, .ref pai, .ref sol, .int 0, .ref bal, .ref leg])), (act, .inr (5, [.int 0, .ref en.2.2.1, .int 0]))] sz) := by
  refine Met.ofW (cc := cX18_keeps) (maxL := 5) (ret := (some .int)) (by decide) rfl ?_
  intro p e s m args below meth c s₁ B hml hv
  obtain ⟨rfl, hsz, hb0, hE, hPP, hK, hDD, hF0⟩ := hv
  have hx := B.exec
  have hb := B.bytes
  have hr := B.returns
  have hts := atoms_spec (ws := wo_c_keeps_g) B.pre
  have hown : s.vm.findClass RX18 = some m.cls := findClass_of_methodNamed B.named
  have hlocks := B.notSynchronized
  subst hsz
  have hN0 := en_N hPP hDD rfl
  have hP : va_P (dC, dI) vwCl [(mm, .inr (24, [.int 0, .ref stu, .ref cla, .ref pic, .ref act, .int 5, .int 50, .ref nts, .ref isn, .int 1600, .ref boa, .ref mas, .ref pai, .ref sol, .int 0, .ref bal, .ref leg])), (act, .inr (5, [.int 0, .ref en.2.2.1, .int 0]))] s.heap := hPP.sub [0, 1] rfl
  have hR0 : va_P (dC, dI) vwCl [(pic, .inr (20, [.ref ap, .ref scr, .int 1600, .int 0, .int 0, .ref mm])), (ap, .inl (kP, 48, .inr (.inr (.inr (.inr g))))), (scr, .inr (5, [.int 0, .ref en.2.2.1, .int 0])), (ac, .inr (18, [.int 103, .ref na])), (na, .inl (kA, 1, .inl fN))] s.heap := hPP.sub [2, 3, 4, 5, 6] rfl
  have hD0 : va_D (fun q => b0 ≤ q) [(mm, .inr (24, [.int 0, .ref stu, .ref cla, .ref pic, .ref act, .int 5, .int 50, .ref nts, .ref isn, .int 1600, .ref boa, .ref mas, .ref pai, .ref sol, .int 0, .ref bal, .ref leg])), (act, .inr (5, [.int 0, .ref en.2.2.1, .int 0]))] := hDD.sub [0, 1] (by decide) rfl
  have hDr : va_D (fun q => b0 ≤ q) [(pic, .inr (20, [.ref ap, .ref scr, .int 1600, .int 0, .int 0, .ref mm])), (ap, .inl (kP, 48, .inr (.inr (.inr (.inr g))))), (scr, .inr (5, [.int 0, .ref en.2.2.1, .int 0])), (ac, .inr (18, [.int 103, .ref na])), (na, .inl (kA, 1, .inl fN))] := hDD.sub [2, 3, 4, 5, 6] (by decide) rfl
  have hAb := en_A (sz := s.heap.size) hD0 hb0
  have hD := hD0.self (sz := s.heap.size)
  generalize hAe : va_A [(mm, .inr (24, [.int 0, .ref stu, .ref cla, .ref pic, .ref act, .int 5, .int 50, .ref nts, .ref isn, .int 1600, .ref boa, .ref mas, .ref pai, .ref sol, .int 0, .ref bal, .ref leg])), (act, .inr (5, [.int 0, .ref en.2.2.1, .int 0]))] s.heap.size = A at hD hAb hN0 ⊢
  have hA : ∀ q : Nat, s.heap.size ≤ q → A q := fun q h => by rw [← hAe]; exact Or.inr h
  have hS : va_S A s.heap s.heap [] := va_S.rf
  have hR := hR0
  have hl := lv_entry [.ref mm, .ref ac, .int (-1)] (n := 5) (Nat.le_of_ble_eq_true rfl)
  rw [lg_entry_eq]
  generalize (lg_sl [.ref mm, .ref ac, .int (-1)] ++ List.replicate (5 - (lg_sl [.ref mm, .ref ac, .int (-1)]).length) Slot.unset).toArray = ls at hl ⊢
  have hl : lv_has ls 5 [(0, .ref mm), (1, .ref ac), (2, .int (-1))] := hl
  have hAc := hA
  have hlt_mm : mm < s.heap.size := (hPP 0 _ rfl).lt
  have hlt_act : act < s.heap.size := (hPP 1 _ rfl).lt
  have hlt_pic : pic < s.heap.size := (hPP 2 _ rfl).lt
  have hlt_ap : ap < s.heap.size := (hPP 3 _ rfl).lt
  have hlt_scr : scr < s.heap.size := (hPP 4 _ rfl).lt
  have hlt_ac : ac < s.heap.size := (hPP 5 _ rfl).lt
  have hlt_na : na < s.heap.size := (hPP 6 _ rfl).lt
  have hR0b := hR0
  have hDrb := hDr
  have hN0b := hN0
  refine lv_aload_n hx hb dX18_keeps_0 rfl (lv_at hl 0 rfl) ?_
  refine va_get (D := (dC, dI)) (ci := 24) (v := .ref pic) (C := RX18) (T := TX18) (N := 17) hx hb hts (by decide +kernel) hown hK hP 0 rfl rfl 3 (by decide) (hts (.fieldLink RX18 25 "UnderpaintModel" "picture" "LUnderpaintModel$Picture;") (by decide +kernel)) (fun _ h9 => h9) rfl dX18_keeps_1 ?_
  have hS9 := hS
  have hPc := (hP.app hR).sub (ws' := [] ++ [(pic, .inr (20, [.ref ap, .ref scr, .int 1600, .int 0, .int 0, .ref mm])), (ap, .inl (kP, 48, .inr (.inr (.inr (.inr g))))), (scr, .inr (5, [.int 0, .ref en.2.2.1, .int 0]))]) [2, 3, 4] rfl
  have hDc := (en_DD hD hDr hN0 hAb).sub (ws' := [] ++ [(pic, .inr (20, [.ref ap, .ref scr, .int 1600, .int 0, .int 0, .ref mm])), (ap, .inl (kP, 48, .inr (.inr (.inr (.inr g))))), (scr, .inr (5, [.int 0, .ref en.2.2.1, .int 0]))]) [2, 3, 4] (by decide) rfl
  have hKc := hK.sub (tys' := [(kP, .object "UnderpaintModel$Place")]) [0] rfl
  have hFc := va_free (wc := []) hD hS hA [] rfl
  refine va_callr (va_runV (As := []) (rest := []) ⟨hx, hb, hml, hown, hts⟩ (c_X14_copy l dC dI b0 en s.heap.size pic ap scr mm g kP N (fun a9 h9 => ⟨(hNb a9 h9).1, Nat.lt_of_lt_of_le (hNb a9 h9).2 hS.1⟩) (fun a9 h9 z9 => by have g1 := hNw a9 h9; have g2 := hNr a9 h9; have g3 := (hNb a9 h9).2; simp only [List.map_cons, List.map_nil, List.mem_cons, List.not_mem_nil, or_false, not_or] at g1 g2 z9 <;> omega) (fun a9 h9 z9 => by have g1 := hNw a9 h9; have g2 := hNr a9 h9; have g3 := (hNb a9 h9).2; simp only [List.map_cons, List.map_nil, List.mem_cons, List.not_mem_nil, or_false, not_or] at g1 g2 z9 <;> omega)) (cwV 0 hts go_c_keeps_g_0 rfl rfl rfl (by decide +kernel) ⟨Nat.le_of_ble_eq_true rfl, Nat.le_of_ble_eq_true rfl⟩) ⟨cP.blind, va_recv hK hR (ci := 20) (q0 := 0) rfl rfl, cP.use (en_z hb0 hS) (hE.on hAb hS) hPc hKc hDc (hF0.on (fun a9 h8 h9 => by rw [← hAe]; exact vA1 h8 (hNw a9 h9)) hS)⟩ rfl rfl hl.1 rfl (lv_room (Nat.le_of_ble_eq_true rfl)) dX18_keeps_4 ⟨Nat.le_of_ble_eq_true rfl, Nat.le_of_ble_eq_true rfl⟩) hS (fun q _ h => hFc q h) hFc (fun ⟨ap2_2, sc2_3, kQ_4, g2_5⟩ r_6 t H1 locs ht hvm hw hB hz1 hk1 hS => ?_)
  obtain ⟨hP1, hK1, hD1, hF1⟩ := hB
  rw [ht] at hP1
  try rw [ht] at hF1
  have hK1 := va_K.moved hvm.symm hK1
  try dsimp only at hw
  obtain ⟨hP, hD⟩ := va_join (wr := [(mm, .inr (24, [.int 0, .ref stu, .ref cla, .ref pic, .ref act, .int 5, .int 50, .ref nts, .ref isn, .int 1600, .ref boa, .ref mas, .ref pai, .ref sol, .int 0, .ref bal, .ref leg])), (act, .inr (5, [.int 0, .ref en.2.2.1, .int 0]))]) (w1 := [(r_6, .inr (20, [.ref ap2_2, .ref sc2_3, .int 1600, .int 0, .int 0, .ref mm])), (ap2_2, .inl (kQ_4, 48, .inr (.inr (.inr (.inr g2_5))))), (sc2_3, .inr (5, [.int 1, .ref en.2.2.1, .int 0]))]) hP hD [] [0, 1] rfl rfl (by decide) (by decide) hk1 hFc hP1 hD1
  have hK := hK.app hK1
  have hG : FamP (dC, dI) (vN s.heap.size [r_6, ap2_2, sc2_3]) en.2.2.1 g2_5 H1 := FamP.mono hF1 (fun a9 h9 => ⟨Nat.le_trans hS9.1 h9.1, h9.2⟩)
  have hge_r_6 : s.heap.size ≤ r_6 := Nat.le_trans hS9.1 (vGe hD1 0 rfl)
  have hge_ap2_2 : s.heap.size ≤ ap2_2 := Nat.le_trans hS9.1 (vGe hD1 1 rfl)
  have hge_sc2_3 : s.heap.size ≤ sc2_3 := Nat.le_trans hS9.1 (vGe hD1 2 rfl)
  have hgz_r_6 : s.heap.size ≤ r_6 := Nat.le_trans hS9.1 (vGeN hD1 0 rfl (by simp only [List.map_cons, List.map_nil, List.mem_cons, List.not_mem_nil, or_false, not_or, not_false_eq_true]))
  have hgz_ap2_2 : s.heap.size ≤ ap2_2 := Nat.le_trans hS9.1 (vGeN hD1 1 rfl (by simp only [List.map_cons, List.map_nil, List.mem_cons, List.not_mem_nil, or_false, not_or, not_false_eq_true]))
  have hgz_sc2_3 : s.heap.size ≤ sc2_3 := Nat.le_trans hS9.1 (vGeN hD1 2 rfl (by simp only [List.map_cons, List.map_nil, List.mem_cons, List.not_mem_nil, or_false, not_or, not_false_eq_true]))
  generalize H1 = H at hP hS hG ⊢
  have hP : va_P (dC, dI) vwCl [(mm, .inr (24, [.int 0, .ref stu, .ref cla, .ref pic, .ref act, .int 5, .int 50, .ref nts, .ref isn, .int 1600, .ref boa, .ref mas, .ref pai, .ref sol, .int 0, .ref bal, .ref leg])), (act, .inr (5, [.int 0, .ref en.2.2.1, .int 0])), (r_6, .inr (20, [.ref ap2_2, .ref sc2_3, .int 1600, .int 0, .int 0, .ref mm])), (ap2_2, .inl (kQ_4, 48, .inr (.inr (.inr (.inr g2_5))))), (sc2_3, .inr (5, [.int 1, .ref en.2.2.1, .int 0]))] H := hP
  have hD : va_D A [(mm, .inr (24, [.int 0, .ref stu, .ref cla, .ref pic, .ref act, .int 5, .int 50, .ref nts, .ref isn, .int 1600, .ref boa, .ref mas, .ref pai, .ref sol, .int 0, .ref bal, .ref leg])), (act, .inr (5, [.int 0, .ref en.2.2.1, .int 0])), (r_6, .inr (20, [.ref ap2_2, .ref sc2_3, .int 1600, .int 0, .int 0, .ref mm])), (ap2_2, .inl (kQ_4, 48, .inr (.inr (.inr (.inr g2_5))))), (sc2_3, .inr (5, [.int 1, .ref en.2.2.1, .int 0]))] := hD
  have hR := en_R hR0 hN0 hS
  refine W.widen (k := 148) (n := 537) (Nat.le_of_ble_eq_true rfl) (Nat.le_of_ble_eq_true rfl) ?_
  refine lv_astore_n (lv' := [(3, .ref r_6), (0, .ref mm), (1, .ref ac), (2, .int (-1))]) hx hb dX18_keeps_7 rfl hl (by decide) rfl (fun ls hl => ?_)
  refine lv_aload_n hx hb dX18_keeps_8 rfl (lv_at hl 0 rfl) ?_
  refine lv_aload_n hx hb dX18_keeps_9 rfl (lv_at hl 2 rfl) ?_
  have hPc := (hP.app hR).sub (ws' := [(r_6, .inr (20, [.ref ap2_2, .ref sc2_3, .int 1600, .int 0, .int 0, .ref mm])), (ap2_2, .inl (kQ_4, 48, .inr (.inr (.inr (.inr g2_5))))), (sc2_3, .inr (5, [.int 1, .ref en.2.2.1, .int 0]))] ++ [(ac, .inr (18, [.int 103, .ref na])), (na, .inl (kA, 1, .inl fN))]) [2, 3, 4, 8, 9] rfl
  have hDc := (en_DD hD hDr hN0 hAb).sub (ws' := [(r_6, .inr (20, [.ref ap2_2, .ref sc2_3, .int 1600, .int 0, .int 0, .ref mm])), (ap2_2, .inl (kQ_4, 48, .inr (.inr (.inr (.inr g2_5))))), (sc2_3, .inr (5, [.int 1, .ref en.2.2.1, .int 0]))] ++ [(ac, .inr (18, [.int 103, .ref na])), (na, .inl (kA, 1, .inl fN))]) [2, 3, 4, 8, 9] (by decide) rfl
  have hKc := hK.sub (tys' := [(kQ_4, .object "UnderpaintModel$Place"), (kA, .int)]) [2, 1] rfl
  have hFc : ∀ q, vC s.heap.size q → A q := fun q h => hAc q h
  refine va_calli (va_runV (As := [.ref ac]) (rest := []) ⟨hx, hb, hml, hown, hts⟩ (c_does_g l dC dI b0 en H.size r_6 ap2_2 sc2_3 mm s.heap.size kQ_4 g2_5 ac na kA fN (z_c_keeps_s_169 fN h0 h1) (z_c_keeps_s_170 fN h0 h1) hb0 hS.1 (vW1 (by first | exact hge_r_6 | exact hc0_r_6 | omega) (vW1 (by first | exact hge_ap2_2 | exact hc0_ap2_2 | omega) (vW1 (by first | exact hge_sc2_3 | exact hc0_sc2_3 | omega) vW0))) (vL1 (by first | exact hlt_ac | omega) (vL1 (by first | exact hlt_na | omega) vL0))) (cwV 1 hts go_c_keeps_g_1 rfl rfl rfl (by decide +kernel) ⟨Nat.le_of_ble_eq_true rfl, Nat.le_of_ble_eq_true rfl⟩) ⟨cP.blind, va_recv hK hP (ci := 20) (q0 := 2) rfl rfl, cP.use (en_z hb0 hS) (hE.on hAb hS) hPc hKc hDc hG⟩ rfl rfl hl.1 rfl (lv_room (Nat.le_of_ble_eq_true rfl)) dX18_keeps_10 ⟨Nat.le_of_ble_eq_true rfl, Nat.le_of_ble_eq_true rfl⟩) hS (fun q _ h => hFc q h) hFc (fun r_7 u t H1 locs ht hvm hw hB hz1 hk1 hS => ?_)
  obtain ⟨hP1, hK1, hD1, hF1⟩ := hB
  rw [ht] at hP1
  try rw [ht] at hF1
  have hK1 := va_K.moved hvm.symm hK1
  try dsimp only at hw
  have hLk : ∀ (k9 : Nat) (q9 : Nat × va_E), ([(mm, .inr (24, [.int 0, .ref stu, .ref cla, .ref pic, .ref act, .int 5, .int 50, .ref nts, .ref isn, .int 1600, .ref boa, .ref mas, .ref pai, .ref sol, .int 0, .ref bal, .ref leg])), (act, .inr (5, [.int 0, .ref en.2.2.1, .int 0]))] : va_W)[k9]? = some q9 → q9.1 < s.heap.size := (vL1 (by first | exact hlt_mm | omega) (vL1 (by first | exact hlt_act | omega) vL0))
  have hP := (vC_kept (hP.sub (ws' := [(mm, .inr (24, [.int 0, .ref stu, .ref cla, .ref pic, .ref act, .int 5, .int 50, .ref nts, .ref isn, .int 1600, .ref boa, .ref mas, .ref pai, .ref sol, .int 0, .ref bal, .ref leg])), (act, .inr (5, [.int 0, .ref en.2.2.1, .int 0]))]) [0, 1] rfl) hLk hk1).app hP1
  have hD := vC_app (hD.sub (ws' := [(mm, .inr (24, [.int 0, .ref stu, .ref cla, .ref pic, .ref act, .int 5, .int 50, .ref nts, .ref isn, .int 1600, .ref boa, .ref mas, .ref pai, .ref sol, .int 0, .ref bal, .ref leg])), (act, .inr (5, [.int 0, .ref en.2.2.1, .int 0]))]) [0, 1] (by decide) rfl) hLk hD1 hAc
  generalize H1 = H at hP hS ⊢
  have hP : va_P (dC, dI) vwCl [(mm, .inr (24, [.int 0, .ref stu, .ref cla, .ref pic, .ref act, .int 5, .int 50, .ref nts, .ref isn, .int 1600, .ref boa, .ref mas, .ref pai, .ref sol, .int 0, .ref bal, .ref leg])), (act, .inr (5, [.int 0, .ref en.2.2.1, .int 0]))] H := hP
  have hD : va_D A [(mm, .inr (24, [.int 0, .ref stu, .ref cla, .ref pic, .ref act, .int 5, .int 50, .ref nts, .ref isn, .int 1600, .ref boa, .ref mas, .ref pai, .ref sol, .int 0, .ref bal, .ref leg])), (act, .inr (5, [.int 0, .ref en.2.2.1, .int 0]))] := hD
  have hR := en_R hR0 hN0 hS
  refine W.widen (k := 148) (n := 537) (Nat.le_of_ble_eq_true rfl) (Nat.le_of_ble_eq_true rfl) ?_
  subst r_7
  refine lv_istore (lv' := [(4, .int 0), (3, .ref r_6), (0, .ref mm), (1, .ref ac), (2, .int (-1))]) hx hb dX18_keeps_13 hl (by decide) rfl (fun ls hl => ?_)
  refine lv_iload hx hb dX18_keeps_15 (lv_at hl 0 rfl) ?_
  refine lv_iconst (v := (-1)) hx hb dX18_keeps_17 (by decide) ?_
  refine lv_icmp_ne (tgt := 31) hx hb dX18_keeps_18 (by decide) (fun c_8 => ?_) (fun c_8 => absurd c_8 (by decide))
  refine lv_aload_n hx hb dX18_keeps_31 rfl (lv_at hl 2 rfl) ?_
  refine va_get (D := (dC, dI)) (ci := 24) (v := .ref act) (C := RX18) (T := TX18) (N := 17) hx hb hts (by decide +kernel) hown hK hP 0 rfl rfl 4 (by decide) (hts (.fieldLink RX18 29 "UnderpaintModel" "acts" "Ljava/util/List;") (by decide +kernel)) (fun _ h9 => h9) rfl dX18_keeps_32 ?_
  have hPc := (hP.app hR).sub (ws' := [] ++ [(act, .inr (5, [.int 0, .ref en.2.2.1, .int 0]))]) [1] rfl
  have hDc := (en_DD hD hDr hN0 hAb).sub (ws' := [] ++ [(act, .inr (5, [.int 0, .ref en.2.2.1, .int 0]))]) [1] (by decide) rfl
  have hKc := hK.sub (tys' := []) [] rfl
  have hFc := va_free (wc := []) hD hS hA [] rfl
  refine va_callFi (va_runF (As := []) (rest := []) (hK.1 5 _ rfl).2 ⟨hx, hb, hml, hown, hts⟩ (c_Jx4a65c_size l dC dI b0 en H.size act en.2.2.1 0 0) (va_cwF 0 hts go_c_keeps_g_2 rfl rfl rfl (hE.face ("java/util/ArrayList", ⟨"java/util/List", "size", "()I"⟩, ⟨"java/util/ArrayList", "size", "()I"⟩) (by decide +kernel)) (by decide +kernel) ⟨Nat.le_of_ble_eq_true rfl, Nat.le_of_ble_eq_true rfl⟩) ⟨cP.blind, va_recv hK hP (ci := 5) (q0 := 1) rfl rfl, cP.use (en_z hb0 hS) (hE.on hAb hS) hPc hKc hDc trivial⟩ rfl rfl hl.1 rfl (lv_room (Nat.le_of_ble_eq_true rfl)) dX18_keeps_35 ⟨Nat.le_of_ble_eq_true rfl, Nat.le_of_ble_eq_true rfl⟩) hS (fun q _ h => hFc q h) hFc (fun r_9 u t H1 locs ht hvm hw hB hz1 hk1 hS => ?_)
  have hP1 : va_P (dC, dI) vwCl [] H1 := fun k q h => by simp at h
  have hD1 : va_D (va_A [] H.size) [] := ⟨fun i j p q h => by simp at h, fun k q h => by simp at h⟩
  try dsimp only at hw
  obtain ⟨hP, hD⟩ := va_join (wr := [(mm, .inr (24, [.int 0, .ref stu, .ref cla, .ref pic, .ref act, .int 5, .int 50, .ref nts, .ref isn, .int 1600, .ref boa, .ref mas, .ref pai, .ref sol, .int 0, .ref bal, .ref leg])), (act, .inr (5, [.int 0, .ref en.2.2.1, .int 0]))]) (w1 := []) hP hD [] [0, 1] rfl rfl (by decide) (by decide) hk1 hFc hP1 hD1
  generalize H1 = H at hP hS ⊢
  have hP : va_P (dC, dI) vwCl [(mm, .inr (24, [.int 0, .ref stu, .ref cla, .ref pic, .ref act, .int 5, .int 50, .ref nts, .ref isn, .int 1600, .ref boa, .ref mas, .ref pai, .ref sol, .int 0, .ref bal, .ref leg])), (act, .inr (5, [.int 0, .ref en.2.2.1, .int 0]))] H := hP
  have hD : va_D A [(mm, .inr (24, [.int 0, .ref stu, .ref cla, .ref pic, .ref act, .int 5, .int 50, .ref nts, .ref isn, .int 1600, .ref boa, .ref mas, .ref pai, .ref sol, .int 0, .ref bal, .ref leg])), (act, .inr (5, [.int 0, .ref en.2.2.1, .int 0]))] := hD
  have hR := en_R hR0 hN0 hS
  refine W.widen (k := 148) (n := 537) (Nat.le_of_ble_eq_true rfl) (Nat.le_of_ble_eq_true rfl) ?_
  subst r_9
  refine lv_bipush (v := 40) hx hb dX18_keeps_40 (by decide) ?_
  refine lv_icmp_ne (tgt := 56) hx hb dX18_keeps_42 (by decide) (fun c_10 => ?_) (fun c_10 => absurd c_10 (by decide))
  refine lv_aload_n hx hb dX18_keeps_56 rfl (lv_at hl 2 rfl) ?_
  refine lv_aload_n hx hb dX18_keeps_57 rfl (lv_at hl 1 rfl) ?_
  refine va_put (D := (dC, dI)) (ci := 24) (v := .ref r_6) (ty := .object "UnderpaintModel$Picture") (C := RX18) (T := TX18) (N := 17) hx hb hts (by decide +kernel) tyX18 tyX18_ok nmX18 hown hK hP hD hS 0 rfl rfl 3 (by decide) (hts (.fieldLink RX18 25 "UnderpaintModel" "picture" "LUnderpaintModel$Picture;") (by decide +kernel)) (fun _ h9 => h9) rfl (by decide +kernel) rfl rfl (Nat.le_of_ble_eq_true rfl) dX18_keeps_58 (fun H locs hP hD hS => ?_)
  have hP : va_P (dC, dI) vwCl [(mm, .inr (24, [.int 0, .ref stu, .ref cla, .ref r_6, .ref act, .int 5, .int 50, .ref nts, .ref isn, .int 1600, .ref boa, .ref mas, .ref pai, .ref sol, .int 0, .ref bal, .ref leg])), (act, .inr (5, [.int 0, .ref en.2.2.1, .int 0]))] H := hP
  have hD : va_D A [(mm, .inr (24, [.int 0, .ref stu, .ref cla, .ref r_6, .ref act, .int 5, .int 50, .ref nts, .ref isn, .int 1600, .ref boa, .ref mas, .ref pai, .ref sol, .int 0, .ref bal, .ref leg])), (act, .inr (5, [.int 0, .ref en.2.2.1, .int 0]))] := hD
  have hR := en_R hR0 hN0 hS
  refine lv_aload_n hx hb dX18_keeps_61 rfl (lv_at hl 2 rfl) ?_
  refine va_get (D := (dC, dI)) (ci := 24) (v := .ref act) (C := RX18) (T := TX18) (N := 17) hx hb hts (by decide +kernel) hown hK hP 0 rfl rfl 4 (by decide) (hts (.fieldLink RX18 29 "UnderpaintModel" "acts" "Ljava/util/List;") (by decide +kernel)) (fun _ h9 => h9) rfl dX18_keeps_62 ?_
  refine lv_aload_n hx hb dX18_keeps_65 rfl (lv_at hl 3 rfl) ?_
  have hS9 := hS
  have hPc := (hP.app hR).sub (ws' := [(act, .inr (5, [.int 0, .ref en.2.2.1, .int 0]))] ++ [(ac, .inr (18, ([.int 103, .ref na])))]) [1, 5] rfl
  have hDc := (en_DD hD hDr hN0 hAb).sub (ws' := [(act, .inr (5, [.int 0, .ref en.2.2.1, .int 0]))] ++ [(ac, .inr (18, ([.int 103, .ref na])))]) [1, 5] (by decide) rfl
  have hKc := hK.sub (tys' := []) [] rfl
  have hFc := va_free (wc := [(act, .inr (5, [.int 0, .ref en.2.2.1, .int 0]))]) hD hS hA [1] rfl
  refine va_callFi (va_runF (As := [.ref ac]) (rest := []) (hK.1 5 _ rfl).2 ⟨hx, hb, hml, hown, hts⟩ (c_addo l dC dI b0 en H.size act ac 18 ([.int 103, .ref na]) (RX12, TX12, 2) rfl (by decide +kernel)) (va_cwF 1 hts go_c_keeps_g_3 rfl rfl rfl (hE.face ("java/util/ArrayList", ⟨"java/util/List", "add", "(Ljava/lang/Object;)Z"⟩, ⟨"java/util/ArrayList", "add", "(Ljava/lang/Object;)Z"⟩) (by decide +kernel)) (by decide +kernel) ⟨Nat.le_of_ble_eq_true rfl, Nat.le_of_ble_eq_true rfl⟩) ⟨cP.blind, va_recv hK hP (ci := 5) (q0 := 1) rfl rfl, cP.use (en_z hb0 hS) (hE.on hAb hS) hPc hKc hDc trivial⟩ rfl rfl hl.1 rfl (lv_room (Nat.le_of_ble_eq_true rfl)) dX18_keeps_66 ⟨Nat.le_of_ble_eq_true rfl, Nat.le_of_ble_eq_true rfl⟩) hS (fun q _ h => hFc q h) hFc (fun r_15 ⟨ar_12, cO_13, fO_14⟩ t H1 locs ht hvm hw hB hz1 hk1 hS => ?_)
  obtain ⟨hP1, hK1, hD1, hF1⟩ := hB
  rw [ht] at hP1
  try rw [ht] at hF1
  have hK1 := va_K.moved hvm.symm hK1
  try dsimp only at hw
  obtain ⟨hP, hD⟩ := va_join (wr := [(mm, .inr (24, [.int 0, .ref stu, .ref cla, .ref r_6, .ref act, .int 5, .int 50, .ref nts, .ref isn, .int 1600, .ref boa, .ref mas, .ref pai, .ref sol, .int 0, .ref bal, .ref leg]))]) (w1 := [(act, .inr (5, [.int 1, .ref ar_12, .int 1])), (ar_12, .inl (cO_13, 10, .inr (.inr (.inr (.inr fO_14)))))]) hP hD [1] [0] rfl rfl (by decide) (by decide) hk1 hFc hP1 hD1
  have hK := hK.app hK1
  skip
  skip
  have hgz_ar_12 : s.heap.size ≤ ar_12 := Nat.le_trans hS9.1 (vGeN hD1 1 rfl (by simp only [List.map_cons, List.map_nil, List.mem_cons, List.not_mem_nil, or_false, not_or, not_false_eq_true]; exact vAp hD1 1 0 rfl rfl (by decide)))
  generalize H1 = H at hP hS ⊢
  have hP : va_P (dC, dI) vwCl [(mm, .inr (24, [.int 0, .ref stu, .ref cla, .ref r_6, .ref act, .int 5, .int 50, .ref nts, .ref isn, .int 1600, .ref boa, .ref mas, .ref pai, .ref sol, .int 0, .ref bal, .ref leg])), (act, .inr (5, [.int 1, .ref ar_12, .int 1])), (ar_12, .inl (cO_13, 10, .inr (.inr (.inr (.inr fO_14)))))] H := hP
  have hD : va_D A [(mm, .inr (24, [.int 0, .ref stu, .ref cla, .ref r_6, .ref act, .int 5, .int 50, .ref nts, .ref isn, .int 1600, .ref boa, .ref mas, .ref pai, .ref sol, .int 0, .ref bal, .ref leg])), (act, .inr (5, [.int 1, .ref ar_12, .int 1])), (ar_12, .inl (cO_13, 10, .inr (.inr (.inr (.inr fO_14)))))] := hD
  have hR := en_R hR0 hN0 hS
  refine W.widen (k := 149) (n := 547) (Nat.le_of_ble_eq_true rfl) (Nat.le_of_ble_eq_true rfl) ?_
  subst r_15
  refine lv_pop hx hb dX18_keeps_71 rfl ?_
  refine lv_iload hx hb dX18_keeps_72 (lv_at hl 0 rfl) ?_
  refine W.widen (k := 149) (n := 547) (Nat.le_of_ble_eq_true rfl) (Nat.le_of_ble_eq_true rfl) ?_
  exact W.iret (v := 0) hx hb hr (fun t ht hW => ⟨⟨0, ⟨0, [.ref stu, .ref cla, .ref r_6, .ref act, .int 5, .int 50, .ref nts, .ref isn, .int 1600, .ref boa, .ref mas, .ref pai, .ref sol, .int 0, .ref bal, .ref leg]⟩, rfl, (z_c_keeps_g_172 fN h0 h1), cB.mk ht hW (hP.sub [0] rfl) (hK.sub [] rfl) (hD.sub [0] (by decide) rfl) (trivial)⟩, hS.F ht⟩) hS.2.2 dX18_keeps_74
