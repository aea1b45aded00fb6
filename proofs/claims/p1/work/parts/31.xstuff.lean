theorem dX11_stuff_0 : decode cX11_stuff 0 = .ok (.ldc 79, 2) := by decide +kernel
theorem dX11_stuff_2 : decode cX11_stuff 2 = .ok (.iload_n 1, 1) := by decide +kernel
theorem dX11_stuff_3 : decode cX11_stuff 3 = .ok (.invokevirtual 81, 3) := by decide +kernel
theorem dX11_stuff_6 : decode cX11_stuff 6 = .ok (.ifCond .lt 7, 3) := by decide +kernel
theorem dX11_stuff_13 : decode cX11_stuff 13 = .ok (.iconst 0, 1) := by decide +kernel
theorem dX11_stuff_14 : decode cX11_stuff 14 = .ok (.invokestatic 87, 3) := by decide +kernel
theorem dX11_stuff_9 : decode cX11_stuff 9 = .ok (.iconst 1, 1) := by decide +kernel
theorem dX11_stuff_10 : decode cX11_stuff 10 = .ok (.goto 4, 3) := by decide +kernel
theorem dX11_stuff_17 : decode cX11_stuff 17 = .ok (.iload_n 2, 1) := by decide +kernel
theorem dX11_stuff_18 : decode cX11_stuff 18 = .ok (.iconst 0, 1) := by decide +kernel
theorem dX11_stuff_19 : decode cX11_stuff 19 = .ok (.bipush 99, 2) := by decide +kernel
theorem dX11_stuff_21 : decode cX11_stuff 21 = .ok (.invokestatic 91, 3) := by decide +kernel
theorem dX11_stuff_24 : decode cX11_stuff 24 = .ok (.ifCond .eq 29, 3) := by decide +kernel
theorem dX11_stuff_53 : decode cX11_stuff 53 = .ok (.iconst 0, 1) := by decide +kernel
theorem dX11_stuff_54 : decode cX11_stuff 54 = .ok (.invokestatic 87, 3) := by decide +kernel
theorem dX11_stuff_27 : decode cX11_stuff 27 = .ok (.iload_n 3, 1) := by decide +kernel
theorem dX11_stuff_28 : decode cX11_stuff 28 = .ok (.iconst 1, 1) := by decide +kernel
theorem dX11_stuff_29 : decode cX11_stuff 29 = .ok (.bipush 100, 2) := by decide +kernel
theorem dX11_stuff_31 : decode cX11_stuff 31 = .ok (.invokestatic 91, 3) := by decide +kernel
theorem dX11_stuff_34 : decode cX11_stuff 34 = .ok (.ifCond .eq 19, 3) := by decide +kernel
theorem dX11_stuff_37 : decode cX11_stuff 37 = .ok (.iload 8, 2) := by decide +kernel
theorem dX11_stuff_39 : decode cX11_stuff 39 = .ok (.iconst 0, 1) := by decide +kernel
theorem dX11_stuff_40 : decode cX11_stuff 40 = .ok (.sipush 9999, 3) := by decide +kernel
theorem dX11_stuff_43 : decode cX11_stuff 43 = .ok (.invokestatic 91, 3) := by decide +kernel
theorem dX11_stuff_46 : decode cX11_stuff 46 = .ok (.ifCond .eq 7, 3) := by decide +kernel
theorem dX11_stuff_49 : decode cX11_stuff 49 = .ok (.iconst 1, 1) := by decide +kernel
theorem dX11_stuff_50 : decode cX11_stuff 50 = .ok (.goto 4, 3) := by decide +kernel
theorem dX11_stuff_57 : decode cX11_stuff 57 = .ok (.iload 4, 2) := by decide +kernel
theorem dX11_stuff_59 : decode cX11_stuff 59 = .ok (.iconst 0, 1) := by decide +kernel
theorem dX11_stuff_60 : decode cX11_stuff 60 = .ok (.bipush 9, 2) := by decide +kernel
theorem dX11_stuff_62 : decode cX11_stuff 62 = .ok (.invokestatic 91, 3) := by decide +kernel
theorem dX11_stuff_65 : decode cX11_stuff 65 = .ok (.ifCond .eq 18, 3) := by decide +kernel
theorem dX11_stuff_83 : decode cX11_stuff 83 = .ok (.iconst 0, 1) := by decide +kernel
theorem dX11_stuff_84 : decode cX11_stuff 84 = .ok (.invokestatic 87, 3) := by decide +kernel
theorem dX11_stuff_68 : decode cX11_stuff 68 = .ok (.iload 5, 2) := by decide +kernel
theorem dX11_stuff_70 : decode cX11_stuff 70 = .ok (.iconst 0, 1) := by decide +kernel
theorem dX11_stuff_71 : decode cX11_stuff 71 = .ok (.bipush 9, 2) := by decide +kernel
theorem dX11_stuff_73 : decode cX11_stuff 73 = .ok (.invokestatic 91, 3) := by decide +kernel
theorem dX11_stuff_76 : decode cX11_stuff 76 = .ok (.ifCond .eq 7, 3) := by decide +kernel
theorem dX11_stuff_79 : decode cX11_stuff 79 = .ok (.iconst 1, 1) := by decide +kernel
theorem dX11_stuff_80 : decode cX11_stuff 80 = .ok (.goto 4, 3) := by decide +kernel
theorem dX11_stuff_87 : decode cX11_stuff 87 = .ok (.iload 6, 2) := by decide +kernel
theorem dX11_stuff_89 : decode cX11_stuff 89 = .ok (.iconst 0, 1) := by decide +kernel
theorem dX11_stuff_90 : decode cX11_stuff 90 = .ok (.bipush 9, 2) := by decide +kernel
theorem dX11_stuff_92 : decode cX11_stuff 92 = .ok (.invokestatic 91, 3) := by decide +kernel
theorem dX11_stuff_95 : decode cX11_stuff 95 = .ok (.ifCond .eq 18, 3) := by decide +kernel
theorem dX11_stuff_113 : decode cX11_stuff 113 = .ok (.iconst 0, 1) := by decide +kernel
theorem dX11_stuff_114 : decode cX11_stuff 114 = .ok (.invokestatic 87, 3) := by decide +kernel
theorem dX11_stuff_98 : decode cX11_stuff 98 = .ok (.iload 7, 2) := by decide +kernel
theorem dX11_stuff_100 : decode cX11_stuff 100 = .ok (.iconst 0, 1) := by decide +kernel
theorem dX11_stuff_101 : decode cX11_stuff 101 = .ok (.bipush 9, 2) := by decide +kernel
theorem dX11_stuff_103 : decode cX11_stuff 103 = .ok (.invokestatic 91, 3) := by decide +kernel
theorem dX11_stuff_106 : decode cX11_stuff 106 = .ok (.ifCond .eq 7, 3) := by decide +kernel
theorem dX11_stuff_109 : decode cX11_stuff 109 = .ok (.iconst 1, 1) := by decide +kernel
theorem dX11_stuff_110 : decode cX11_stuff 110 = .ok (.goto 4, 3) := by decide +kernel
theorem dX11_stuff_117 : decode cX11_stuff 117 = .ok (.aload_n 0, 1) := by decide +kernel
theorem dX11_stuff_118 : decode cX11_stuff 118 = .ok (.getfield 10, 3) := by decide +kernel
theorem dX11_stuff_121 : decode cX11_stuff 121 = .ok (.invokevirtual 95, 3) := by decide +kernel
theorem dX11_stuff_124 : decode cX11_stuff 124 = .ok (.bipush 12, 2) := by decide +kernel
theorem dX11_stuff_126 : decode cX11_stuff 126 = .ok (.if_icmp .ge 7, 3) := by decide +kernel
theorem dX11_stuff_129 : decode cX11_stuff 129 = .ok (.iconst 1, 1) := by decide +kernel
theorem dX11_stuff_130 : decode cX11_stuff 130 = .ok (.goto 4, 3) := by decide +kernel
theorem dX11_stuff_134 : decode cX11_stuff 134 = .ok (.invokestatic 99, 3) := by decide +kernel
theorem dX11_stuff_137 : decode cX11_stuff 137 = .ok (.new 50, 3) := by decide +kernel
theorem dX11_stuff_140 : decode cX11_stuff 140 = .ok (.dup, 1) := by decide +kernel
theorem dX11_stuff_141 : decode cX11_stuff 141 = .ok (.aload_n 0, 1) := by decide +kernel
theorem dX11_stuff_142 : decode cX11_stuff 142 = .ok (.getfield 10, 3) := by decide +kernel
theorem dX11_stuff_145 : decode cX11_stuff 145 = .ok (.invokevirtual 95, 3) := by decide +kernel
theorem dX11_stuff_148 : decode cX11_stuff 148 = .ok (.iload_n 1, 1) := by decide +kernel
theorem dX11_stuff_149 : decode cX11_stuff 149 = .ok (.invokespecial 52, 3) := by decide +kernel
theorem dX11_stuff_152 : decode cX11_stuff 152 = .ok (.astore 10, 2) := by decide +kernel
theorem dX11_stuff_154 : decode cX11_stuff 154 = .ok (.aload 10, 2) := by decide +kernel
theorem dX11_stuff_156 : decode cX11_stuff 156 = .ok (.iload_n 2, 1) := by decide +kernel
theorem dX11_stuff_157 : decode cX11_stuff 157 = .ok (.putfield 102, 3) := by decide +kernel
theorem dX11_stuff_160 : decode cX11_stuff 160 = .ok (.aload 10, 2) := by decide +kernel
theorem dX11_stuff_162 : decode cX11_stuff 162 = .ok (.iload_n 3, 1) := by decide +kernel
theorem dX11_stuff_163 : decode cX11_stuff 163 = .ok (.putfield 105, 3) := by decide +kernel
theorem dX11_stuff_166 : decode cX11_stuff 166 = .ok (.aload 10, 2) := by decide +kernel
theorem dX11_stuff_168 : decode cX11_stuff 168 = .ok (.iload 4, 2) := by decide +kernel
theorem dX11_stuff_170 : decode cX11_stuff 170 = .ok (.putfield 108, 3) := by decide +kernel
theorem dX11_stuff_173 : decode cX11_stuff 173 = .ok (.aload 10, 2) := by decide +kernel
theorem dX11_stuff_175 : decode cX11_stuff 175 = .ok (.iload 5, 2) := by decide +kernel
theorem dX11_stuff_177 : decode cX11_stuff 177 = .ok (.putfield 111, 3) := by decide +kernel
theorem dX11_stuff_180 : decode cX11_stuff 180 = .ok (.aload 10, 2) := by decide +kernel
theorem dX11_stuff_182 : decode cX11_stuff 182 = .ok (.iload 6, 2) := by decide +kernel
theorem dX11_stuff_184 : decode cX11_stuff 184 = .ok (.putfield 114, 3) := by decide +kernel
theorem dX11_stuff_187 : decode cX11_stuff 187 = .ok (.aload 10, 2) := by decide +kernel
theorem dX11_stuff_189 : decode cX11_stuff 189 = .ok (.iload 7, 2) := by decide +kernel
theorem dX11_stuff_191 : decode cX11_stuff 191 = .ok (.putfield 117, 3) := by decide +kernel
theorem dX11_stuff_194 : decode cX11_stuff 194 = .ok (.aload 10, 2) := by decide +kernel
theorem dX11_stuff_196 : decode cX11_stuff 196 = .ok (.iload 8, 2) := by decide +kernel
theorem dX11_stuff_198 : decode cX11_stuff 198 = .ok (.putfield 120, 3) := by decide +kernel
theorem dX11_stuff_201 : decode cX11_stuff 201 = .ok (.aload 10, 2) := by decide +kernel
theorem dX11_stuff_203 : decode cX11_stuff 203 = .ok (.iload 9, 2) := by decide +kernel
theorem dX11_stuff_205 : decode cX11_stuff 205 = .ok (.putfield 123, 3) := by decide +kernel
theorem dX11_stuff_208 : decode cX11_stuff 208 = .ok (.aload_n 0, 1) := by decide +kernel
theorem dX11_stuff_209 : decode cX11_stuff 209 = .ok (.getfield 10, 3) := by decide +kernel
theorem dX11_stuff_212 : decode cX11_stuff 212 = .ok (.aload 10, 2) := by decide +kernel
theorem dX11_stuff_214 : decode cX11_stuff 214 = .ok (.invokevirtual 127, 3) := by decide +kernel
theorem dX11_stuff_217 : decode cX11_stuff 217 = .ok (.pop, 1) := by decide +kernel
theorem dX11_stuff_218 : decode cX11_stuff 218 = .ok (.aload 10, 2) := by decide +kernel
theorem dX11_stuff_220 : decode cX11_stuff 220 = .ok (.getfield 131, 3) := by decide +kernel
theorem dX11_stuff_223 : decode cX11_stuff 223 = .ok (.ireturn, 1) := by decide +kernel
theorem z_c_X11_stuff_389 (c9 : Int32) (z9 : Int32) (a_0 : narrow .char (.int c9) = .int c9) (a_1 : fits .char (.int c9) = true) (a_2 : narrow .boolean (.int z9) = .int z9) (a_3 : fits .boolean (.int z9) = true) : 0 < 6 := by  simp_all
theorem z_c_X11_stuff_390 (c9 : Int32) (tone : Int32) (cover : Int32) (weight : Int32) (lamp : Int32) (hold : Int32) (fading : Int32) (yr : Int32) (z9 : Int32) (a_0 : narrow .char (.int c9) = .int c9) (a_1 : fits .char (.int c9) = true) (a_2 : narrow .boolean (.int z9) = .int z9) (a_3 : fits .boolean (.int z9) = true) (a_4 : ¬ (0 ≤ ixL 0 c9)) (a_5 : (0 : Int32) = 0) : ¬ (0 ≤ ixL 0 c9 ∧ (0 ≤ tone ∧ tone ≤ 99) ∧ (1 ≤ cover ∧ cover ≤ 100) ∧ (0 ≤ weight ∧ weight ≤ 9) ∧ (0 ≤ lamp ∧ lamp ≤ 9) ∧ (0 ≤ hold ∧ hold ≤ 9) ∧ (0 ≤ fading ∧ fading ≤ 9) ∧ (0 ≤ yr ∧ yr ≤ 9999)) := by (try generalize (0 ≤ ixL 0 c9) = P_0 at *); (try generalize (0 ≤ tone ∧ tone ≤ 99) = P_1 at *); (try generalize (1 ≤ cover ∧ cover ≤ 100) = P_2 at *); (try generalize (0 ≤ yr ∧ yr ≤ 9999) = P_3 at *); (try generalize (0 ≤ weight ∧ weight ≤ 9) = P_4 at *); (try generalize (0 ≤ lamp ∧ lamp ≤ 9) = P_5 at *); (try generalize (0 ≤ hold ∧ hold ≤ 9) = P_6 at *); (try generalize (0 ≤ fading ∧ fading ≤ 9) = P_7 at *); simp_all
theorem z_c_X11_stuff_391 (c9 : Int32) (tone : Int32) (cover : Int32) (weight : Int32) (lamp : Int32) (hold : Int32) (fading : Int32) (yr : Int32) (z9 : Int32) (a_0 : narrow .char (.int c9) = .int c9) (a_1 : fits .char (.int c9) = true) (a_2 : narrow .boolean (.int z9) = .int z9) (a_3 : fits .boolean (.int z9) = true) (a_4 : 0 ≤ ixL 0 c9) (a_5 : ¬ (1 : Int32) = 0) (a_6 : ¬ (0 ≤ tone ∧ tone ≤ 99)) (a_7 : (0 : Int32) = 0) : ¬ (0 ≤ ixL 0 c9 ∧ (0 ≤ tone ∧ tone ≤ 99) ∧ (1 ≤ cover ∧ cover ≤ 100) ∧ (0 ≤ weight ∧ weight ≤ 9) ∧ (0 ≤ lamp ∧ lamp ≤ 9) ∧ (0 ≤ hold ∧ hold ≤ 9) ∧ (0 ≤ fading ∧ fading ≤ 9) ∧ (0 ≤ yr ∧ yr ≤ 9999)) := by (try generalize (0 ≤ ixL 0 c9) = P_0 at *); (try generalize (0 ≤ tone ∧ tone ≤ 99) = P_1 at *); (try generalize (1 ≤ cover ∧ cover ≤ 100) = P_2 at *); (try generalize (0 ≤ yr ∧ yr ≤ 9999) = P_3 at *); (try generalize (0 ≤ weight ∧ weight ≤ 9) = P_4 at *); (try generalize (0 ≤ lamp ∧ lamp ≤ 9) = P_5 at *); (try generalize (0 ≤ hold ∧ hold ≤ 9) = P_6 at *); (try generalize (0 ≤ fading ∧ fading ≤ 9) = P_7 at *); simp_all
theorem z_c_X11_stuff_392 (c9 : Int32) (tone : Int32) (cover : Int32) (weight : Int32) (lamp : Int32) (hold : Int32) (fading : Int32) (yr : Int32) (z9 : Int32) (a_0 : narrow .char (.int c9) = .int c9) (a_1 : fits .char (.int c9) = true) (a_2 : narrow .boolean (.int z9) = .int z9) (a_3 : fits .boolean (.int z9) = true) (a_4 : 0 ≤ ixL 0 c9) (a_5 : ¬ (1 : Int32) = 0) (a_6 : 0 ≤ tone ∧ tone ≤ 99) (a_7 : ¬ (1 ≤ cover ∧ cover ≤ 100)) (a_8 : (0 : Int32) = 0) : ¬ (0 ≤ ixL 0 c9 ∧ (0 ≤ tone ∧ tone ≤ 99) ∧ (1 ≤ cover ∧ cover ≤ 100) ∧ (0 ≤ weight ∧ weight ≤ 9) ∧ (0 ≤ lamp ∧ lamp ≤ 9) ∧ (0 ≤ hold ∧ hold ≤ 9) ∧ (0 ≤ fading ∧ fading ≤ 9) ∧ (0 ≤ yr ∧ yr ≤ 9999)) := by (try generalize (0 ≤ ixL 0 c9) = P_0 at *); (try generalize (0 ≤ tone ∧ tone ≤ 99) = P_1 at *); (try generalize (1 ≤ cover ∧ cover ≤ 100) = P_2 at *); (try generalize (0 ≤ yr ∧ yr ≤ 9999) = P_3 at *); (try generalize (0 ≤ weight ∧ weight ≤ 9) = P_4 at *); (try generalize (0 ≤ lamp ∧ lamp ≤ 9) = P_5 at *); (try generalize (0 ≤ hold ∧ hold ≤ 9) = P_6 at *); (try generalize (0 ≤ fading ∧ fading ≤ 9) = P_7 at *); simp_all
theorem z_c_X11_stuff_393 (c9 : Int32) (tone : Int32) (cover : Int32) (weight : Int32) (lamp : Int32) (hold : Int32) (fading : Int32) (yr : Int32) (z9 : Int32) (a_0 : narrow .char (.int c9) = .int c9) (a_1 : fits .char (.int c9) = true) (a_2 : narrow .boolean (.int z9) = .int z9) (a_3 : fits .boolean (.int z9) = true) (a_4 : 0 ≤ ixL 0 c9) (a_5 : ¬ (1 : Int32) = 0) (a_6 : 0 ≤ tone ∧ tone ≤ 99) (a_7 : 1 ≤ cover ∧ cover ≤ 100) (a_8 : ¬ (0 ≤ yr ∧ yr ≤ 9999)) (a_9 : (0 : Int32) = 0) : ¬ (0 ≤ ixL 0 c9 ∧ (0 ≤ tone ∧ tone ≤ 99) ∧ (1 ≤ cover ∧ cover ≤ 100) ∧ (0 ≤ weight ∧ weight ≤ 9) ∧ (0 ≤ lamp ∧ lamp ≤ 9) ∧ (0 ≤ hold ∧ hold ≤ 9) ∧ (0 ≤ fading ∧ fading ≤ 9) ∧ (0 ≤ yr ∧ yr ≤ 9999)) := by (try generalize (0 ≤ ixL 0 c9) = P_0 at *); (try generalize (0 ≤ tone ∧ tone ≤ 99) = P_1 at *); (try generalize (1 ≤ cover ∧ cover ≤ 100) = P_2 at *); (try generalize (0 ≤ yr ∧ yr ≤ 9999) = P_3 at *); (try generalize (0 ≤ weight ∧ weight ≤ 9) = P_4 at *); (try generalize (0 ≤ lamp ∧ lamp ≤ 9) = P_5 at *); (try generalize (0 ≤ hold ∧ hold ≤ 9) = P_6 at *); (try generalize (0 ≤ fading ∧ fading ≤ 9) = P_7 at *); simp_all
theorem z_c_X11_stuff_394 (c9 : Int32) (tone : Int32) (cover : Int32) (weight : Int32) (lamp : Int32) (hold : Int32) (fading : Int32) (yr : Int32) (z9 : Int32) (a_0 : narrow .char (.int c9) = .int c9) (a_1 : fits .char (.int c9) = true) (a_2 : narrow .boolean (.int z9) = .int z9) (a_3 : fits .boolean (.int z9) = true) (a_4 : 0 ≤ ixL 0 c9) (a_5 : ¬ (1 : Int32) = 0) (a_6 : 0 ≤ tone ∧ tone ≤ 99) (a_7 : 1 ≤ cover ∧ cover ≤ 100) (a_8 : 0 ≤ yr ∧ yr ≤ 9999) (a_9 : ¬ (1 : Int32) = 0) (a_10 : ¬ (0 ≤ weight ∧ weight ≤ 9)) (a_11 : (0 : Int32) = 0) : ¬ (0 ≤ ixL 0 c9 ∧ (0 ≤ tone ∧ tone ≤ 99) ∧ (1 ≤ cover ∧ cover ≤ 100) ∧ (0 ≤ weight ∧ weight ≤ 9) ∧ (0 ≤ lamp ∧ lamp ≤ 9) ∧ (0 ≤ hold ∧ hold ≤ 9) ∧ (0 ≤ fading ∧ fading ≤ 9) ∧ (0 ≤ yr ∧ yr ≤ 9999)) := by (try generalize (0 ≤ ixL 0 c9) = P_0 at *); (try generalize (0 ≤ tone ∧ tone ≤ 99) = P_1 at *); (try generalize (1 ≤ cover ∧ cover ≤ 100) = P_2 at *); (try generalize (0 ≤ yr ∧ yr ≤ 9999) = P_3 at *); (try generalize (0 ≤ weight ∧ weight ≤ 9) = P_4 at *); (try generalize (0 ≤ lamp ∧ lamp ≤ 9) = P_5 at *); (try generalize (0 ≤ hold ∧ hold ≤ 9) = P_6 at *); (try generalize (0 ≤ fading ∧ fading ≤ 9) = P_7 at *); simp_all
theorem z_c_X11_stuff_395 (c9 : Int32) (tone : Int32) (cover : Int32) (weight : Int32) (lamp : Int32) (hold : Int32) (fading : Int32) (yr : Int32) (z9 : Int32) (a_0 : narrow .char (.int c9) = .int c9) (a_1 : fits .char (.int c9) = true) (a_2 : narrow .boolean (.int z9) = .int z9) (a_3 : fits .boolean (.int z9) = true) (a_4 : 0 ≤ ixL 0 c9) (a_5 : ¬ (1 : Int32) = 0) (a_6 : 0 ≤ tone ∧ tone ≤ 99) (a_7 : 1 ≤ cover ∧ cover ≤ 100) (a_8 : 0 ≤ yr ∧ yr ≤ 9999) (a_9 : ¬ (1 : Int32) = 0) (a_10 : 0 ≤ weight ∧ weight ≤ 9) (a_11 : ¬ (0 ≤ lamp ∧ lamp ≤ 9)) (a_12 : (0 : Int32) = 0) : ¬ (0 ≤ ixL 0 c9 ∧ (0 ≤ tone ∧ tone ≤ 99) ∧ (1 ≤ cover ∧ cover ≤ 100) ∧ (0 ≤ weight ∧ weight ≤ 9) ∧ (0 ≤ lamp ∧ lamp ≤ 9) ∧ (0 ≤ hold ∧ hold ≤ 9) ∧ (0 ≤ fading ∧ fading ≤ 9) ∧ (0 ≤ yr ∧ yr ≤ 9999)) := by (try generalize (0 ≤ ixL 0 c9) = P_0 at *); (try generalize (0 ≤ tone ∧ tone ≤ 99) = P_1 at *); (try generalize (1 ≤ cover ∧ cover ≤ 100) = P_2 at *); (try generalize (0 ≤ yr ∧ yr ≤ 9999) = P_3 at *); (try generalize (0 ≤ weight ∧ weight ≤ 9) = P_4 at *); (try generalize (0 ≤ lamp ∧ lamp ≤ 9) = P_5 at *); (try generalize (0 ≤ hold ∧ hold ≤ 9) = P_6 at *); (try generalize (0 ≤ fading ∧ fading ≤ 9) = P_7 at *); simp_all
theorem z_c_X11_stuff_396 (c9 : Int32) (tone : Int32) (cover : Int32) (weight : Int32) (lamp : Int32) (hold : Int32) (fading : Int32) (yr : Int32) (z9 : Int32) (a_0 : narrow .char (.int c9) = .int c9) (a_1 : fits .char (.int c9) = true) (a_2 : narrow .boolean (.int z9) = .int z9) (a_3 : fits .boolean (.int z9) = true) (a_4 : 0 ≤ ixL 0 c9) (a_5 : ¬ (1 : Int32) = 0) (a_6 : 0 ≤ tone ∧ tone ≤ 99) (a_7 : 1 ≤ cover ∧ cover ≤ 100) (a_8 : 0 ≤ yr ∧ yr ≤ 9999) (a_9 : ¬ (1 : Int32) = 0) (a_10 : 0 ≤ weight ∧ weight ≤ 9) (a_11 : 0 ≤ lamp ∧ lamp ≤ 9) (a_12 : ¬ (1 : Int32) = 0) (a_13 : ¬ (0 ≤ hold ∧ hold ≤ 9)) (a_14 : (0 : Int32) = 0) : ¬ (0 ≤ ixL 0 c9 ∧ (0 ≤ tone ∧ tone ≤ 99) ∧ (1 ≤ cover ∧ cover ≤ 100) ∧ (0 ≤ weight ∧ weight ≤ 9) ∧ (0 ≤ lamp ∧ lamp ≤ 9) ∧ (0 ≤ hold ∧ hold ≤ 9) ∧ (0 ≤ fading ∧ fading ≤ 9) ∧ (0 ≤ yr ∧ yr ≤ 9999)) := by (try generalize (0 ≤ ixL 0 c9) = P_0 at *); (try generalize (0 ≤ tone ∧ tone ≤ 99) = P_1 at *); (try generalize (1 ≤ cover ∧ cover ≤ 100) = P_2 at *); (try generalize (0 ≤ yr ∧ yr ≤ 9999) = P_3 at *); (try generalize (0 ≤ weight ∧ weight ≤ 9) = P_4 at *); (try generalize (0 ≤ lamp ∧ lamp ≤ 9) = P_5 at *); (try generalize (0 ≤ hold ∧ hold ≤ 9) = P_6 at *); (try generalize (0 ≤ fading ∧ fading ≤ 9) = P_7 at *); simp_all
theorem z_c_X11_stuff_397 (c9 : Int32) (tone : Int32) (cover : Int32) (weight : Int32) (lamp : Int32) (hold : Int32) (fading : Int32) (yr : Int32) (z9 : Int32) (a_0 : narrow .char (.int c9) = .int c9) (a_1 : fits .char (.int c9) = true) (a_2 : narrow .boolean (.int z9) = .int z9) (a_3 : fits .boolean (.int z9) = true) (a_4 : 0 ≤ ixL 0 c9) (a_5 : ¬ (1 : Int32) = 0) (a_6 : 0 ≤ tone ∧ tone ≤ 99) (a_7 : 1 ≤ cover ∧ cover ≤ 100) (a_8 : 0 ≤ yr ∧ yr ≤ 9999) (a_9 : ¬ (1 : Int32) = 0) (a_10 : 0 ≤ weight ∧ weight ≤ 9) (a_11 : 0 ≤ lamp ∧ lamp ≤ 9) (a_12 : ¬ (1 : Int32) = 0) (a_13 : 0 ≤ hold ∧ hold ≤ 9) (a_14 : ¬ (0 ≤ fading ∧ fading ≤ 9)) (a_15 : (0 : Int32) = 0) : ¬ (0 ≤ ixL 0 c9 ∧ (0 ≤ tone ∧ tone ≤ 99) ∧ (1 ≤ cover ∧ cover ≤ 100) ∧ (0 ≤ weight ∧ weight ≤ 9) ∧ (0 ≤ lamp ∧ lamp ≤ 9) ∧ (0 ≤ hold ∧ hold ≤ 9) ∧ (0 ≤ fading ∧ fading ≤ 9) ∧ (0 ≤ yr ∧ yr ≤ 9999)) := by (try generalize (0 ≤ ixL 0 c9) = P_0 at *); (try generalize (0 ≤ tone ∧ tone ≤ 99) = P_1 at *); (try generalize (1 ≤ cover ∧ cover ≤ 100) = P_2 at *); (try generalize (0 ≤ yr ∧ yr ≤ 9999) = P_3 at *); (try generalize (0 ≤ weight ∧ weight ≤ 9) = P_4 at *); (try generalize (0 ≤ lamp ∧ lamp ≤ 9) = P_5 at *); (try generalize (0 ≤ hold ∧ hold ≤ 9) = P_6 at *); (try generalize (0 ≤ fading ∧ fading ≤ 9) = P_7 at *); simp_all
theorem z_c_X11_stuff_398 (c9 : Int32) (tone : Int32) (cover : Int32) (weight : Int32) (lamp : Int32) (hold : Int32) (fading : Int32) (yr : Int32) (z9 : Int32) (a_0 : narrow .char (.int c9) = .int c9) (a_1 : fits .char (.int c9) = true) (a_2 : narrow .boolean (.int z9) = .int z9) (a_3 : fits .boolean (.int z9) = true) (a_4 : 0 ≤ ixL 0 c9) (a_5 : ¬ (1 : Int32) = 0) (a_6 : 0 ≤ tone ∧ tone ≤ 99) (a_7 : 1 ≤ cover ∧ cover ≤ 100) (a_8 : 0 ≤ yr ∧ yr ≤ 9999) (a_9 : ¬ (1 : Int32) = 0) (a_10 : 0 ≤ weight ∧ weight ≤ 9) (a_11 : 0 ≤ lamp ∧ lamp ≤ 9) (a_12 : ¬ (1 : Int32) = 0) (a_13 : 0 ≤ hold ∧ hold ≤ 9) (a_14 : 0 ≤ fading ∧ fading ≤ 9) (a_15 : ¬ (1 : Int32) = 0) (a_16 : ¬ (1 : Int32) = 0) : (0 : Int32) = 0 ∧ 0 ≤ ixL 0 c9 ∧ (0 ≤ tone ∧ tone ≤ 99) ∧ (1 ≤ cover ∧ cover ≤ 100) ∧ (0 ≤ weight ∧ weight ≤ 9) ∧ (0 ≤ lamp ∧ lamp ≤ 9) ∧ (0 ≤ hold ∧ hold ≤ 9) ∧ (0 ≤ fading ∧ fading ≤ 9) ∧ (0 ≤ yr ∧ yr ≤ 9999) := by (try generalize (0 ≤ ixL 0 c9) = P_0 at *); (try generalize (0 ≤ tone ∧ tone ≤ 99) = P_1 at *); (try generalize (1 ≤ cover ∧ cover ≤ 100) = P_2 at *); (try generalize (0 ≤ yr ∧ yr ≤ 9999) = P_3 at *); (try generalize (0 ≤ weight ∧ weight ≤ 9) = P_4 at *); (try generalize (0 ≤ lamp ∧ lamp ≤ 9) = P_5 at *); (try generalize (0 ≤ hold ∧ hold ≤ 9) = P_6 at *); (try generalize (0 ≤ fading ∧ fading ≤ 9) = P_7 at *); simp_all
def wo_c_X11_stuff_w : List Cond := [Cond.fieldLink RX11 10 "Underpaint" "palette" "Ljava/util/ArrayList;", Cond.classLink RX11 50 RX9, Cond.instantiable RX9 11, Cond.initialized RX9, Cond.methodLink RX11 52 yX9_init, Cond.instanceMethod yX9_init, Cond.fieldLink RX11 102 "Underpaint$Stuff" "tone" "I", Cond.fieldLink RX11 105 "Underpaint$Stuff" "cover" "I", Cond.fieldLink RX11 108 "Underpaint$Stuff" "weight" "I", Cond.fieldLink RX11 111 "Underpaint$Stuff" "lamp" "I", Cond.fieldLink RX11 114 "Underpaint$Stuff" "hold" "I", Cond.fieldLink RX11 117 "Underpaint$Stuff" "fading" "I", Cond.fieldLink RX11 120 "Underpaint$Stuff" "madeFrom" "I", Cond.fieldLink RX11 123 "Underpaint$Stuff" "isThrough" "Z", Cond.fieldLink RX11 131 "Underpaint$Stuff" "number" "I"]
def wo_c_X11_stuff : List Cond := .code yX11_stuff cX11_stuff 11 (some .int) :: (wo_c_X11_stuff_w ++ (u_ws RX11 TX11 14 ++ (u_ws RX9 TX9 11 ++ (wsV RX11 81 RJ0 yJ0_indexOf_0f7a4 wsJ0_indexOf_0f7a4 ++ (va_wsS RX11 87 yX11_demandArgument wsX11_demandArgument ++ (va_wsS RX11 91 yX11_isWithin wsX11_isWithin ++ (wsV RX11 95 RJx4a65c yJx4a65c_size_8abf5 wsJx4a65c_size_8abf5 ++ (va_wsS RX11 99 yX11_demandRoom wsX11_demandRoom ++ (wo_c_X9_init ++ (wsV RX11 127 RJx4a65c yJx4a65c_add_9ea2d wsJx4a65c_add_9ea2d ++ List.nil))))))))))
theorem gw_wo_c_X11_stuff : wo_c_X11_stuff.all goodWord = true := gw_c (by decide +kernel) (gw_a (by decide +kernel) (gw_a (by decide +kernel) (gw_a (by decide +kernel) (gw_a (gw_a (by decide +kernel) gw_wsJ0_indexOf_0f7a4) (gw_a (gw_a (by decide +kernel) gw_wsX11_demandArgument) (gw_a (gw_a (by decide +kernel) gw_wsX11_isWithin) (gw_a (gw_a (by decide +kernel) gw_wsJx4a65c_size_8abf5) (gw_a (gw_a (by decide +kernel) gw_wsX11_demandRoom) (gw_a gw_wo_c_X9_init (gw_a (gw_a (by decide +kernel) gw_wsJx4a65c_add_9ea2d) rfl))))))))))
theorem go_c_X11_stuff_0 : GoodIn wo_c_X11_stuff (wsV RX11 81 RJ0 yJ0_indexOf_0f7a4 wsJ0_indexOf_0f7a4) := goodIn_sub (fun _ h => List.mem_cons_of_mem _ (List.mem_append_right _ (List.mem_append_right _ (List.mem_append_right _ (List.mem_append_left _ h))))) (gw_a (by decide +kernel) gw_wsJ0_indexOf_0f7a4)
theorem go_c_X11_stuff_1 : GoodIn wo_c_X11_stuff (va_wsS RX11 87 yX11_demandArgument wsX11_demandArgument) := goodIn_sub (fun _ h => List.mem_cons_of_mem _ (List.mem_append_right _ (List.mem_append_right _ (List.mem_append_right _ (List.mem_append_right _ (List.mem_append_left _ h)))))) (gw_a (by decide +kernel) gw_wsX11_demandArgument)
theorem go_c_X11_stuff_2 : GoodIn wo_c_X11_stuff (va_wsS RX11 91 yX11_isWithin wsX11_isWithin) := goodIn_sub (fun _ h => List.mem_cons_of_mem _ (List.mem_append_right _ (List.mem_append_right _ (List.mem_append_right _ (List.mem_append_right _ (List.mem_append_right _ (List.mem_append_left _ h))))))) (gw_a (by decide +kernel) gw_wsX11_isWithin)
theorem go_c_X11_stuff_3 : GoodIn wo_c_X11_stuff (wsV RX11 95 RJx4a65c yJx4a65c_size_8abf5 wsJx4a65c_size_8abf5) := goodIn_sub (fun _ h => List.mem_cons_of_mem _ (List.mem_append_right _ (List.mem_append_right _ (List.mem_append_right _ (List.mem_append_right _ (List.mem_append_right _ (List.mem_append_right _ (List.mem_append_left _ h)))))))) (gw_a (by decide +kernel) gw_wsJx4a65c_size_8abf5)
theorem go_c_X11_stuff_4 : GoodIn wo_c_X11_stuff (va_wsS RX11 99 yX11_demandRoom wsX11_demandRoom) := goodIn_sub (fun _ h => List.mem_cons_of_mem _ (List.mem_append_right _ (List.mem_append_right _ (List.mem_append_right _ (List.mem_append_right _ (List.mem_append_right _ (List.mem_append_right _ (List.mem_append_right _ (List.mem_append_left _ h))))))))) (gw_a (by decide +kernel) gw_wsX11_demandRoom)
theorem go_c_X11_stuff_5 : GoodIn wo_c_X11_stuff (wo_c_X9_init) := goodIn_sub (fun _ h => List.mem_cons_of_mem _ (List.mem_append_right _ (List.mem_append_right _ (List.mem_append_right _ (List.mem_append_right _ (List.mem_append_right _ (List.mem_append_right _ (List.mem_append_right _ (List.mem_append_right _ (List.mem_append_left _ h)))))))))) gw_wo_c_X9_init
theorem go_c_X11_stuff_6 : GoodIn wo_c_X11_stuff (wsV RX11 127 RJx4a65c yJx4a65c_add_9ea2d wsJx4a65c_add_9ea2d) := goodIn_sub (fun _ h => List.mem_cons_of_mem _ (List.mem_append_right _ (List.mem_append_right _ (List.mem_append_right _ (List.mem_append_right _ (List.mem_append_right _ (List.mem_append_right _ (List.mem_append_right _ (List.mem_append_right _ (List.mem_append_right _ (List.mem_append_left _ h))))))))))) (gw_a (by decide +kernel) gw_wsJx4a65c_add_9ea2d)
set_option maxHeartbeats 4000000 in
set_option maxRecDepth 100000 in
theorem c_X11_stuff (l : Launch) (hst : l.stackTraces = false) (dC : Nat → ClassId) (dI : Nat → Nat → Nat) (b0 : Nat) (en : EnT) (sz : Nat) (h pal she fil nte dat vot loa nos pic spa : Nat) (c9 tone cover weight lamp hold fading yr z9 : Int32) (hnar_c9 : narrow .char (.int c9) = .int c9) (hfit_c9 : fits .char (.int c9) = true) (hnar_z9 : narrow .boolean (.int z9) = .int z9) (hfit_z9 : fits .boolean (.int z9) = true) : vx_Met l yX11_stuff wo_c_X11_stuff ({ frames := 7, cells := 7, slots := 51, locals := 131 } : Room) (cP b0 en (dC, dI) [] [(pal, .inr (5, [.int 0, .ref en.2.2.1, .int 0]))] [(h, .inr (17, [.ref pal, .ref she, .ref fil, .ref nte, .ref dat, .ref vot, .ref loa, .ref nos, .ref pic, .ref spa, .int 5, .int 50, .int 1600, .int 0]))] sz (fun _ => True) [.ref h, .int c9, .int tone, .int cover, .int weight, .int lamp, .int hold, .int fading, .int yr, .int z9]) (va_Qi (fun (r : Int32) (_ : Unit) => r = 0 ∧ 0 ≤ ixL 0 c9 ∧ (0 ≤ tone ∧ tone ≤ 99) ∧ (1 ≤ cover ∧ cover ≤ 100) ∧ (0 ≤ weight ∧ weight ≤ 9) ∧ (0 ≤ lamp ∧ lamp ≤ 9) ∧ (0 ≤ hold ∧ hold ≤ 9) ∧ (0 ≤ fading ∧ fading ≤ 9) ∧ (0 ≤ yr ∧ yr ≤ 9999)) (fun _ _ => True) (va_A [(pal, .inr (5, [.int 0, .ref en.2.2.1, .int 0]))] sz)) (vx_X (fun _ : Unit => True) (fun E _ _ => (E = "java/lang/IllegalArgumentException" ∧ ¬ (0 ≤ ixL 0 c9 ∧ (0 ≤ tone ∧ tone ≤ 99) ∧ (1 ≤ cover ∧ cover ≤ 100) ∧ (0 ≤ weight ∧ weight ≤ 9) ∧ (0 ≤ lamp ∧ lamp ≤ 9) ∧ (0 ≤ hold ∧ hold ≤ 9) ∧ (0 ≤ fading ∧ fading ≤ 9) ∧ (0 ≤ yr ∧ yr ≤ 9999)))) (va_A [(pal, .inr (5, [.int 0, .ref en.2.2.1, .int 0]))] sz)) 7 51 (va_A [(pal, .inr (5, [.int 0, .ref en.2.2.1, .int 0]))] sz) := by
  refine vx_ofW (cc := cX11_stuff) (maxL := 11) (ret := (some .int)) (by decide) rfl ?_
  intro p e s m args below meth c s₁ B hml hext hv
  obtain ⟨rfl, hsz, hb0, hE, hPP, hK, hDD, hF0⟩ := hv
  have hx := B.exec
  have hb := B.bytes
  have hr := B.returns
  have hts := atoms_spec (ws := wo_c_X11_stuff) B.pre
  have hown : s.vm.findClass RX11 = some m.cls := findClass_of_methodNamed B.named
  have hlocks := B.notSynchronized
  subst hsz
  have hN0 := en_N hPP hDD rfl
  have hP : va_P (dC, dI) vwCl [(pal, .inr (5, [.int 0, .ref en.2.2.1, .int 0]))] s.heap := hPP.sub [0] rfl
  have hR0 : va_P (dC, dI) vwCl [(h, .inr (17, [.ref pal, .ref she, .ref fil, .ref nte, .ref dat, .ref vot, .ref loa, .ref nos, .ref pic, .ref spa, .int 5, .int 50, .int 1600, .int 0]))] s.heap := hPP.sub [1] rfl
  have hD0 : va_D (fun q => b0 ≤ q) [(pal, .inr (5, [.int 0, .ref en.2.2.1, .int 0]))] := hDD.sub [0] (by decide) rfl
  have hDr : va_D (fun q => b0 ≤ q) [(h, .inr (17, [.ref pal, .ref she, .ref fil, .ref nte, .ref dat, .ref vot, .ref loa, .ref nos, .ref pic, .ref spa, .int 5, .int 50, .int 1600, .int 0]))] := hDD.sub [1] (by decide) rfl
  have hAb := en_A (sz := s.heap.size) hD0 hb0
  have hD := hD0.self (sz := s.heap.size)
  generalize hAe : va_A [(pal, .inr (5, [.int 0, .ref en.2.2.1, .int 0]))] s.heap.size = A at hD hAb hN0 ⊢
  have hA : ∀ q : Nat, s.heap.size ≤ q → A q := fun q h => by rw [← hAe]; exact Or.inr h
  have hS : va_S A s.heap s.heap [] := va_S.rf
  have hR := hR0
  have hl := lv_entry [.ref h, .int c9, .int tone, .int cover, .int weight, .int lamp, .int hold, .int fading, .int yr, .int z9] (n := 11) (Nat.le_of_ble_eq_true rfl)
  rw [lg_entry_eq]
  generalize (lg_sl [.ref h, .int c9, .int tone, .int cover, .int weight, .int lamp, .int hold, .int fading, .int yr, .int z9] ++ List.replicate (11 - (lg_sl [.ref h, .int c9, .int tone, .int cover, .int weight, .int lamp, .int hold, .int fading, .int yr, .int z9]).length) Slot.unset).toArray = ls at hl ⊢
  have hl : lv_has ls 11 [(0, .ref h), (1, .int c9), (2, .int tone), (3, .int cover), (4, .int weight), (5, .int lamp), (6, .int hold), (7, .int fading), (8, .int yr), (9, .int z9)] := hl
  refine va_ldcS hx hb hown (hE.ldc (0, "Underpaint", 79, "sgdpzvfrx") (by decide +kernel)) dX11_stuff_0 ?_
  refine lv_iload_n hx hb dX11_stuff_2 rfl (lv_at hl 1 rfl) ?_
  have hPc := (hP.app hR).sub (ws' := [] ++ []) [] rfl
  have hDc := (en_DD hD hDr hN0 hAb).sub (ws' := [] ++ []) [] (by decide) rfl
  have hKc := hK.sub (tys' := []) [] rfl
  have hFc := va_free (wc := []) hD hS hA [] rfl
  refine va_calli (va_runV (As := [.int c9]) (rest := []) ⟨hx, hb, hml, hown, hts⟩ (c_J0_indexOf l dC dI b0 en s.heap.size 0 c9 (z_c_X11_stuff_389 c9 z9 hnar_c9 hfit_c9 hnar_z9 hfit_z9)) (cwV 1 hts go_c_X11_stuff_0 rfl rfl rfl (by decide +kernel) ⟨Nat.le_of_ble_eq_true rfl, Nat.le_of_ble_eq_true rfl⟩) ⟨cP.blind, (en_recv (hE.lit hAb 0 (by decide)).1 hS), cP.use (en_z hb0 hS) (hE.on hAb hS) hPc hKc hDc trivial⟩ rfl rfl hl.1 rfl (lv_room (Nat.le_of_ble_eq_true rfl)) dX11_stuff_3 ⟨Nat.le_of_ble_eq_true rfl, Nat.le_of_ble_eq_true rfl⟩) hS (fun q _ h => hFc q h) hFc (fun r_1 u t H1 locs ht hvm hw hB hz1 hk1 hS => ?_)
  have hP1 : va_P (dC, dI) vwCl [] H1 := fun k q h => by simp at h
  have hD1 : va_D (va_A [] s.heap.size) [] := ⟨fun i j p q h => by simp at h, fun k q h => by simp at h⟩
  try dsimp only at hw
  obtain ⟨hP, hD⟩ := va_join (wr := [(pal, .inr (5, [.int 0, .ref en.2.2.1, .int 0]))]) (w1 := []) hP hD [] [0] rfl rfl (by decide) (by decide) hk1 hFc hP1 hD1
  generalize H1 = H at hP hS ⊢
  have hP : va_P (dC, dI) vwCl [(pal, .inr (5, [.int 0, .ref en.2.2.1, .int 0]))] H := hP
  have hD : va_D A [(pal, .inr (5, [.int 0, .ref en.2.2.1, .int 0]))] := hD
  have hR := en_R hR0 hN0 hS
  refine W.widen (k := 0) (n := 0) (Nat.le_of_ble_eq_true rfl) (Nat.le_of_ble_eq_true rfl) ?_
  subst r_1
  refine lv_if_lt (tgt := 13) hx hb dX11_stuff_6 (by decide) (fun c_2 => ?_) (fun c_2 => ?_)
  · skip
    refine lv_iconst (v := 0) hx hb dX11_stuff_13 (by decide) ?_
    have hPc := (hP.app hR).sub (ws' := [] ++ []) [] rfl
    have hDc := (en_DD hD hDr hN0 hAb).sub (ws' := [] ++ []) [] (by decide) rfl
    have hKc := hK.sub (tys' := []) [] rfl
    have hFc := va_free (wc := []) hD hS hA [] rfl
    refine vx_callv (vx_runS (As := [.int 0]) (rest := []) ⟨hx, hb, hml, hown, hts⟩ (c_X11_demandArgument l hst dC dI b0 en H.size 0) (va_cwS 1 hts go_c_X11_stuff_1 rfl rfl rfl (by decide +kernel) ⟨Nat.le_of_ble_eq_true rfl, Nat.le_of_ble_eq_true rfl⟩) ⟨cP.blind, cP.use (en_z hb0 hS) (hE.on hAb hS) hPc hKc hDc trivial⟩ rfl rfl hl.1 rfl (lv_room (Nat.le_of_ble_eq_true rfl)) dX11_stuff_14 ⟨Nat.le_of_ble_eq_true rfl, Nat.le_of_ble_eq_true rfl⟩) hS (fun q _ h => hFc q h) hFc (fun q _ h => hFc q h) (fun E ce q9 u t H1 locs ht hvm hpx hBX hz1 hk1 hS hce hcv hcl => ?_) (fun u t H1 locs ht hvm hw hB hz1 hk1 hS => ?_)
    · skip
      try dsimp only at hBX
      obtain ⟨rfl, hc⟩ := hBX
      refine vx_widen (k := 7) (n := 51) (Nat.le_of_ble_eq_true rfl) (Nat.le_of_ble_eq_true rfl) ?_
      exact vx_out (fun x hx => (hext x hx).elim) hlocks hce hcv hcl (fun t ht hW => ⟨(), trivial, ⟨rfl, (z_c_X11_stuff_390 c9 tone cover weight lamp hold fading yr z9 hnar_c9 hfit_c9 hnar_z9 hfit_z9 (Int32.not_le.mpr c_2) hc)⟩, hS.F ht⟩) hS.2.2 (Nat.le_refl _) (Nat.le_refl _)
    have hP1 : va_P (dC, dI) vwCl [] H1 := fun k q h => by simp at h
    have hD1 : va_D (va_A [] H.size) [] := ⟨fun i j p q h => by simp at h, fun k q h => by simp at h⟩
    try dsimp only at hw
    obtain ⟨hP, hD⟩ := va_join (wr := [(pal, .inr (5, [.int 0, .ref en.2.2.1, .int 0]))]) (w1 := []) hP hD [] [0] rfl rfl (by decide) (by decide) hk1 hFc hP1 hD1
    generalize H1 = H at hP hS ⊢
    have hP : va_P (dC, dI) vwCl [(pal, .inr (5, [.int 0, .ref en.2.2.1, .int 0]))] H := hP
    have hD : va_D A [(pal, .inr (5, [.int 0, .ref en.2.2.1, .int 0]))] := hD
    have hR := en_R hR0 hN0 hS
    refine W.widen (k := 1) (n := 6) (Nat.le_of_ble_eq_true rfl) (Nat.le_of_ble_eq_true rfl) ?_
    have h_4 := hw
    exact absurd h_4 (by decide)
  · skip
    refine lv_iconst (v := 1) hx hb dX11_stuff_9 (by decide) ?_
    refine lv_goto (tgt := 14) hx hb dX11_stuff_10 (by decide) ?_
    have hPc := (hP.app hR).sub (ws' := [] ++ []) [] rfl
    have hDc := (en_DD hD hDr hN0 hAb).sub (ws' := [] ++ []) [] (by decide) rfl
    have hKc := hK.sub (tys' := []) [] rfl
    have hFc := va_free (wc := []) hD hS hA [] rfl
    refine vx_callv (vx_runS (As := [.int 1]) (rest := []) ⟨hx, hb, hml, hown, hts⟩ (c_X11_demandArgument l hst dC dI b0 en H.size 1) (va_cwS 1 hts go_c_X11_stuff_1 rfl rfl rfl (by decide +kernel) ⟨Nat.le_of_ble_eq_true rfl, Nat.le_of_ble_eq_true rfl⟩) ⟨cP.blind, cP.use (en_z hb0 hS) (hE.on hAb hS) hPc hKc hDc trivial⟩ rfl rfl hl.1 rfl (lv_room (Nat.le_of_ble_eq_true rfl)) dX11_stuff_14 ⟨Nat.le_of_ble_eq_true rfl, Nat.le_of_ble_eq_true rfl⟩) hS (fun q _ h => hFc q h) hFc (fun q _ h => hFc q h) (fun E ce q9 u t H1 locs ht hvm hpx hBX hz1 hk1 hS hce hcv hcl => ?_) (fun u t H1 locs ht hvm hw hB hz1 hk1 hS => ?_)
    · skip
      try dsimp only at hBX
      obtain ⟨rfl, hc⟩ := hBX
      exact absurd hc (by decide)
    have hP1 : va_P (dC, dI) vwCl [] H1 := fun k q h => by simp at h
    have hD1 : va_D (va_A [] H.size) [] := ⟨fun i j p q h => by simp at h, fun k q h => by simp at h⟩
    try dsimp only at hw
    obtain ⟨hP, hD⟩ := va_join (wr := [(pal, .inr (5, [.int 0, .ref en.2.2.1, .int 0]))]) (w1 := []) hP hD [] [0] rfl rfl (by decide) (by decide) hk1 hFc hP1 hD1
    generalize H1 = H at hP hS ⊢
    have hP : va_P (dC, dI) vwCl [(pal, .inr (5, [.int 0, .ref en.2.2.1, .int 0]))] H := hP
    have hD : va_D A [(pal, .inr (5, [.int 0, .ref en.2.2.1, .int 0]))] := hD
    have hR := en_R hR0 hN0 hS
    refine W.widen (k := 1) (n := 6) (Nat.le_of_ble_eq_true rfl) (Nat.le_of_ble_eq_true rfl) ?_
    have h_6 := hw
    refine lv_iload_n hx hb dX11_stuff_17 rfl (lv_at hl 2 rfl) ?_
    refine lv_iconst (v := 0) hx hb dX11_stuff_18 (by decide) ?_
    refine lv_bipush (v := 99) hx hb dX11_stuff_19 (by decide) ?_
    have hPc := (hP.app hR).sub (ws' := [] ++ []) [] rfl
    have hDc := (en_DD hD hDr hN0 hAb).sub (ws' := [] ++ []) [] (by decide) rfl
    have hKc := hK.sub (tys' := []) [] rfl
    have hFc := va_free (wc := []) hD hS hA [] rfl
    refine va_calli (va_runS (As := [.int tone, .int 0, .int 99]) (rest := []) ⟨hx, hb, hml, hown, hts⟩ (c_X11_isWithin l dC dI b0 en H.size tone 0 99) (va_cwS 3 hts go_c_X11_stuff_2 rfl rfl rfl (by decide +kernel) ⟨Nat.le_of_ble_eq_true rfl, Nat.le_of_ble_eq_true rfl⟩) ⟨cP.blind, cP.use (en_z hb0 hS) (hE.on hAb hS) hPc hKc hDc trivial⟩ rfl rfl hl.1 rfl (lv_room (Nat.le_of_ble_eq_true rfl)) dX11_stuff_21 ⟨Nat.le_of_ble_eq_true rfl, Nat.le_of_ble_eq_true rfl⟩) hS (fun q _ h => hFc q h) hFc (fun r_7 u t H1 locs ht hvm hw hB hz1 hk1 hS => ?_)
    have hP1 : va_P (dC, dI) vwCl [] H1 := fun k q h => by simp at h
    have hD1 : va_D (va_A [] H.size) [] := ⟨fun i j p q h => by simp at h, fun k q h => by simp at h⟩
    try dsimp only at hw
    obtain ⟨hP, hD⟩ := va_join (wr := [(pal, .inr (5, [.int 0, .ref en.2.2.1, .int 0]))]) (w1 := []) hP hD [] [0] rfl rfl (by decide) (by decide) hk1 hFc hP1 hD1
    generalize H1 = H at hP hS ⊢
    have hP : va_P (dC, dI) vwCl [(pal, .inr (5, [.int 0, .ref en.2.2.1, .int 0]))] H := hP
    have hD : va_D A [(pal, .inr (5, [.int 0, .ref en.2.2.1, .int 0]))] := hD
    have hR := en_R hR0 hN0 hS
    refine W.widen (k := 1) (n := 6) (Nat.le_of_ble_eq_true rfl) (Nat.le_of_ble_eq_true rfl) ?_
    have h_8 := hw
    refine lv_if_eq (tgt := 53) hx hb dX11_stuff_24 (by decide) (fun c_9 => ?_) (fun c_9 => ?_)
    · skip
      refine lv_iconst (v := 0) hx hb dX11_stuff_53 (by decide) ?_
      have hPc := (hP.app hR).sub (ws' := [] ++ []) [] rfl
      have hDc := (en_DD hD hDr hN0 hAb).sub (ws' := [] ++ []) [] (by decide) rfl
      have hKc := hK.sub (tys' := []) [] rfl
      have hFc := va_free (wc := []) hD hS hA [] rfl
      refine vx_callv (vx_runS (As := [.int 0]) (rest := []) ⟨hx, hb, hml, hown, hts⟩ (c_X11_demandArgument l hst dC dI b0 en H.size 0) (va_cwS 1 hts go_c_X11_stuff_1 rfl rfl rfl (by decide +kernel) ⟨Nat.le_of_ble_eq_true rfl, Nat.le_of_ble_eq_true rfl⟩) ⟨cP.blind, cP.use (en_z hb0 hS) (hE.on hAb hS) hPc hKc hDc trivial⟩ rfl rfl hl.1 rfl (lv_room (Nat.le_of_ble_eq_true rfl)) dX11_stuff_54 ⟨Nat.le_of_ble_eq_true rfl, Nat.le_of_ble_eq_true rfl⟩) hS (fun q _ h => hFc q h) hFc (fun q _ h => hFc q h) (fun E ce q9 u t H1 locs ht hvm hpx hBX hz1 hk1 hS hce hcv hcl => ?_) (fun u t H1 locs ht hvm hw hB hz1 hk1 hS => ?_)
      · skip
        try dsimp only at hBX
        obtain ⟨rfl, hc⟩ := hBX
        refine vx_widen (k := 7) (n := 51) (Nat.le_of_ble_eq_true rfl) (Nat.le_of_ble_eq_true rfl) ?_
        exact vx_out (fun x hx => (hext x hx).elim) hlocks hce hcv hcl (fun t ht hW => ⟨(), trivial, ⟨rfl, (z_c_X11_stuff_391 c9 tone cover weight lamp hold fading yr z9 hnar_c9 hfit_c9 hnar_z9 hfit_z9 (Int32.not_lt.mp c_2) h_6 (b_no h_8 c_9) hc)⟩, hS.F ht⟩) hS.2.2 (Nat.le_refl _) (Nat.le_refl _)
      have hP1 : va_P (dC, dI) vwCl [] H1 := fun k q h => by simp at h
      have hD1 : va_D (va_A [] H.size) [] := ⟨fun i j p q h => by simp at h, fun k q h => by simp at h⟩
      try dsimp only at hw
      obtain ⟨hP, hD⟩ := va_join (wr := [(pal, .inr (5, [.int 0, .ref en.2.2.1, .int 0]))]) (w1 := []) hP hD [] [0] rfl rfl (by decide) (by decide) hk1 hFc hP1 hD1
      generalize H1 = H at hP hS ⊢
      have hP : va_P (dC, dI) vwCl [(pal, .inr (5, [.int 0, .ref en.2.2.1, .int 0]))] H := hP
      have hD : va_D A [(pal, .inr (5, [.int 0, .ref en.2.2.1, .int 0]))] := hD
      have hR := en_R hR0 hN0 hS
      refine W.widen (k := 2) (n := 12) (Nat.le_of_ble_eq_true rfl) (Nat.le_of_ble_eq_true rfl) ?_
      have h_11 := hw
      exact absurd h_11 (by decide)
    · skip
      refine lv_iload_n hx hb dX11_stuff_27 rfl (lv_at hl 3 rfl) ?_
      refine lv_iconst (v := 1) hx hb dX11_stuff_28 (by decide) ?_
      refine lv_bipush (v := 100) hx hb dX11_stuff_29 (by decide) ?_
      have hPc := (hP.app hR).sub (ws' := [] ++ []) [] rfl
      have hDc := (en_DD hD hDr hN0 hAb).sub (ws' := [] ++ []) [] (by decide) rfl
      have hKc := hK.sub (tys' := []) [] rfl
      have hFc := va_free (wc := []) hD hS hA [] rfl
      refine va_calli (va_runS (As := [.int cover, .int 1, .int 100]) (rest := []) ⟨hx, hb, hml, hown, hts⟩ (c_X11_isWithin l dC dI b0 en H.size cover 1 100) (va_cwS 3 hts go_c_X11_stuff_2 rfl rfl rfl (by decide +kernel) ⟨Nat.le_of_ble_eq_true rfl, Nat.le_of_ble_eq_true rfl⟩) ⟨cP.blind, cP.use (en_z hb0 hS) (hE.on hAb hS) hPc hKc hDc trivial⟩ rfl rfl hl.1 rfl (lv_room (Nat.le_of_ble_eq_true rfl)) dX11_stuff_31 ⟨Nat.le_of_ble_eq_true rfl, Nat.le_of_ble_eq_true rfl⟩) hS (fun q _ h => hFc q h) hFc (fun r_12 u t H1 locs ht hvm hw hB hz1 hk1 hS => ?_)
      have hP1 : va_P (dC, dI) vwCl [] H1 := fun k q h => by simp at h
      have hD1 : va_D (va_A [] H.size) [] := ⟨fun i j p q h => by simp at h, fun k q h => by simp at h⟩
      try dsimp only at hw
      obtain ⟨hP, hD⟩ := va_join (wr := [(pal, .inr (5, [.int 0, .ref en.2.2.1, .int 0]))]) (w1 := []) hP hD [] [0] rfl rfl (by decide) (by decide) hk1 hFc hP1 hD1
      generalize H1 = H at hP hS ⊢
      have hP : va_P (dC, dI) vwCl [(pal, .inr (5, [.int 0, .ref en.2.2.1, .int 0]))] H := hP
      have hD : va_D A [(pal, .inr (5, [.int 0, .ref en.2.2.1, .int 0]))] := hD
      have hR := en_R hR0 hN0 hS
      refine W.widen (k := 1) (n := 6) (Nat.le_of_ble_eq_true rfl) (Nat.le_of_ble_eq_true rfl) ?_
      have h_13 := hw
      refine lv_if_eq (tgt := 53) hx hb dX11_stuff_34 (by decide) (fun c_14 => ?_) (fun c_14 => ?_)
      · skip
        refine lv_iconst (v := 0) hx hb dX11_stuff_53 (by decide) ?_
        have hPc := (hP.app hR).sub (ws' := [] ++ []) [] rfl
        have hDc := (en_DD hD hDr hN0 hAb).sub (ws' := [] ++ []) [] (by decide) rfl
        have hKc := hK.sub (tys' := []) [] rfl
        have hFc := va_free (wc := []) hD hS hA [] rfl
        refine vx_callv (vx_runS (As := [.int 0]) (rest := []) ⟨hx, hb, hml, hown, hts⟩ (c_X11_demandArgument l hst dC dI b0 en H.size 0) (va_cwS 1 hts go_c_X11_stuff_1 rfl rfl rfl (by decide +kernel) ⟨Nat.le_of_ble_eq_true rfl, Nat.le_of_ble_eq_true rfl⟩) ⟨cP.blind, cP.use (en_z hb0 hS) (hE.on hAb hS) hPc hKc hDc trivial⟩ rfl rfl hl.1 rfl (lv_room (Nat.le_of_ble_eq_true rfl)) dX11_stuff_54 ⟨Nat.le_of_ble_eq_true rfl, Nat.le_of_ble_eq_true rfl⟩) hS (fun q _ h => hFc q h) hFc (fun q _ h => hFc q h) (fun E ce q9 u t H1 locs ht hvm hpx hBX hz1 hk1 hS hce hcv hcl => ?_) (fun u t H1 locs ht hvm hw hB hz1 hk1 hS => ?_)
        · skip
          try dsimp only at hBX
          obtain ⟨rfl, hc⟩ := hBX
          refine vx_widen (k := 7) (n := 51) (Nat.le_of_ble_eq_true rfl) (Nat.le_of_ble_eq_true rfl) ?_
          exact vx_out (fun x hx => (hext x hx).elim) hlocks hce hcv hcl (fun t ht hW => ⟨(), trivial, ⟨rfl, (z_c_X11_stuff_392 c9 tone cover weight lamp hold fading yr z9 hnar_c9 hfit_c9 hnar_z9 hfit_z9 (Int32.not_lt.mp c_2) h_6 (b_yes h_8 c_9) (b_no h_13 c_14) hc)⟩, hS.F ht⟩) hS.2.2 (Nat.le_refl _) (Nat.le_refl _)
        have hP1 : va_P (dC, dI) vwCl [] H1 := fun k q h => by simp at h
        have hD1 : va_D (va_A [] H.size) [] := ⟨fun i j p q h => by simp at h, fun k q h => by simp at h⟩
        try dsimp only at hw
        obtain ⟨hP, hD⟩ := va_join (wr := [(pal, .inr (5, [.int 0, .ref en.2.2.1, .int 0]))]) (w1 := []) hP hD [] [0] rfl rfl (by decide) (by decide) hk1 hFc hP1 hD1
        generalize H1 = H at hP hS ⊢
        have hP : va_P (dC, dI) vwCl [(pal, .inr (5, [.int 0, .ref en.2.2.1, .int 0]))] H := hP
        have hD : va_D A [(pal, .inr (5, [.int 0, .ref en.2.2.1, .int 0]))] := hD
        have hR := en_R hR0 hN0 hS
        refine W.widen (k := 2) (n := 12) (Nat.le_of_ble_eq_true rfl) (Nat.le_of_ble_eq_true rfl) ?_
        have h_16 := hw
        exact absurd h_16 (by decide)
      · skip
        refine lv_iload hx hb dX11_stuff_37 (lv_at hl 8 rfl) ?_
        refine lv_iconst (v := 0) hx hb dX11_stuff_39 (by decide) ?_
        refine lv_sipush (v := 9999) hx hb dX11_stuff_40 (by decide) ?_
        have hPc := (hP.app hR).sub (ws' := [] ++ []) [] rfl
        have hDc := (en_DD hD hDr hN0 hAb).sub (ws' := [] ++ []) [] (by decide) rfl
        have hKc := hK.sub (tys' := []) [] rfl
        have hFc := va_free (wc := []) hD hS hA [] rfl
        refine va_calli (va_runS (As := [.int yr, .int 0, .int 9999]) (rest := []) ⟨hx, hb, hml, hown, hts⟩ (c_X11_isWithin l dC dI b0 en H.size yr 0 9999) (va_cwS 3 hts go_c_X11_stuff_2 rfl rfl rfl (by decide +kernel) ⟨Nat.le_of_ble_eq_true rfl, Nat.le_of_ble_eq_true rfl⟩) ⟨cP.blind, cP.use (en_z hb0 hS) (hE.on hAb hS) hPc hKc hDc trivial⟩ rfl rfl hl.1 rfl (lv_room (Nat.le_of_ble_eq_true rfl)) dX11_stuff_43 ⟨Nat.le_of_ble_eq_true rfl, Nat.le_of_ble_eq_true rfl⟩) hS (fun q _ h => hFc q h) hFc (fun r_17 u t H1 locs ht hvm hw hB hz1 hk1 hS => ?_)
        have hP1 : va_P (dC, dI) vwCl [] H1 := fun k q h => by simp at h
        have hD1 : va_D (va_A [] H.size) [] := ⟨fun i j p q h => by simp at h, fun k q h => by simp at h⟩
        try dsimp only at hw
        obtain ⟨hP, hD⟩ := va_join (wr := [(pal, .inr (5, [.int 0, .ref en.2.2.1, .int 0]))]) (w1 := []) hP hD [] [0] rfl rfl (by decide) (by decide) hk1 hFc hP1 hD1
        generalize H1 = H at hP hS ⊢
        have hP : va_P (dC, dI) vwCl [(pal, .inr (5, [.int 0, .ref en.2.2.1, .int 0]))] H := hP
        have hD : va_D A [(pal, .inr (5, [.int 0, .ref en.2.2.1, .int 0]))] := hD
        have hR := en_R hR0 hN0 hS
        refine W.widen (k := 1) (n := 6) (Nat.le_of_ble_eq_true rfl) (Nat.le_of_ble_eq_true rfl) ?_
        have h_18 := hw
        refine lv_if_eq (tgt := 53) hx hb dX11_stuff_46 (by decide) (fun c_19 => ?_) (fun c_19 => ?_)
        · skip
          refine lv_iconst (v := 0) hx hb dX11_stuff_53 (by decide) ?_
          have hPc := (hP.app hR).sub (ws' := [] ++ []) [] rfl
          have hDc := (en_DD hD hDr hN0 hAb).sub (ws' := [] ++ []) [] (by decide) rfl
          have hKc := hK.sub (tys' := []) [] rfl
          have hFc := va_free (wc := []) hD hS hA [] rfl
          refine vx_callv (vx_runS (As := [.int 0]) (rest := []) ⟨hx, hb, hml, hown, hts⟩ (c_X11_demandArgument l hst dC dI b0 en H.size 0) (va_cwS 1 hts go_c_X11_stuff_1 rfl rfl rfl (by decide +kernel) ⟨Nat.le_of_ble_eq_true rfl, Nat.le_of_ble_eq_true rfl⟩) ⟨cP.blind, cP.use (en_z hb0 hS) (hE.on hAb hS) hPc hKc hDc trivial⟩ rfl rfl hl.1 rfl (lv_room (Nat.le_of_ble_eq_true rfl)) dX11_stuff_54 ⟨Nat.le_of_ble_eq_true rfl, Nat.le_of_ble_eq_true rfl⟩) hS (fun q _ h => hFc q h) hFc (fun q _ h => hFc q h) (fun E ce q9 u t H1 locs ht hvm hpx hBX hz1 hk1 hS hce hcv hcl => ?_) (fun u t H1 locs ht hvm hw hB hz1 hk1 hS => ?_)
          · skip
            try dsimp only at hBX
            obtain ⟨rfl, hc⟩ := hBX
            refine vx_widen (k := 7) (n := 51) (Nat.le_of_ble_eq_true rfl) (Nat.le_of_ble_eq_true rfl) ?_
            exact vx_out (fun x hx => (hext x hx).elim) hlocks hce hcv hcl (fun t ht hW => ⟨(), trivial, ⟨rfl, (z_c_X11_stuff_393 c9 tone cover weight lamp hold fading yr z9 hnar_c9 hfit_c9 hnar_z9 hfit_z9 (Int32.not_lt.mp c_2) h_6 (b_yes h_8 c_9) (b_yes h_13 c_14) (b_no h_18 c_19) hc)⟩, hS.F ht⟩) hS.2.2 (Nat.le_refl _) (Nat.le_refl _)
          have hP1 : va_P (dC, dI) vwCl [] H1 := fun k q h => by simp at h
          have hD1 : va_D (va_A [] H.size) [] := ⟨fun i j p q h => by simp at h, fun k q h => by simp at h⟩
          try dsimp only at hw
          obtain ⟨hP, hD⟩ := va_join (wr := [(pal, .inr (5, [.int 0, .ref en.2.2.1, .int 0]))]) (w1 := []) hP hD [] [0] rfl rfl (by decide) (by decide) hk1 hFc hP1 hD1
          generalize H1 = H at hP hS ⊢
          have hP : va_P (dC, dI) vwCl [(pal, .inr (5, [.int 0, .ref en.2.2.1, .int 0]))] H := hP
          have hD : va_D A [(pal, .inr (5, [.int 0, .ref en.2.2.1, .int 0]))] := hD
          have hR := en_R hR0 hN0 hS
          refine W.widen (k := 2) (n := 12) (Nat.le_of_ble_eq_true rfl) (Nat.le_of_ble_eq_true rfl) ?_
          have h_21 := hw
          exact absurd h_21 (by decide)
        · skip
          refine lv_iconst (v := 1) hx hb dX11_stuff_49 (by decide) ?_
          refine lv_goto (tgt := 54) hx hb dX11_stuff_50 (by decide) ?_
          have hPc := (hP.app hR).sub (ws' := [] ++ []) [] rfl
          have hDc := (en_DD hD hDr hN0 hAb).sub (ws' := [] ++ []) [] (by decide) rfl
          have hKc := hK.sub (tys' := []) [] rfl
          have hFc := va_free (wc := []) hD hS hA [] rfl
          refine vx_callv (vx_runS (As := [.int 1]) (rest := []) ⟨hx, hb, hml, hown, hts⟩ (c_X11_demandArgument l hst dC dI b0 en H.size 1) (va_cwS 1 hts go_c_X11_stuff_1 rfl rfl rfl (by decide +kernel) ⟨Nat.le_of_ble_eq_true rfl, Nat.le_of_ble_eq_true rfl⟩) ⟨cP.blind, cP.use (en_z hb0 hS) (hE.on hAb hS) hPc hKc hDc trivial⟩ rfl rfl hl.1 rfl (lv_room (Nat.le_of_ble_eq_true rfl)) dX11_stuff_54 ⟨Nat.le_of_ble_eq_true rfl, Nat.le_of_ble_eq_true rfl⟩) hS (fun q _ h => hFc q h) hFc (fun q _ h => hFc q h) (fun E ce q9 u t H1 locs ht hvm hpx hBX hz1 hk1 hS hce hcv hcl => ?_) (fun u t H1 locs ht hvm hw hB hz1 hk1 hS => ?_)
          · skip
            try dsimp only at hBX
            obtain ⟨rfl, hc⟩ := hBX
            exact absurd hc (by decide)
          have hP1 : va_P (dC, dI) vwCl [] H1 := fun k q h => by simp at h
          have hD1 : va_D (va_A [] H.size) [] := ⟨fun i j p q h => by simp at h, fun k q h => by simp at h⟩
          try dsimp only at hw
          obtain ⟨hP, hD⟩ := va_join (wr := [(pal, .inr (5, [.int 0, .ref en.2.2.1, .int 0]))]) (w1 := []) hP hD [] [0] rfl rfl (by decide) (by decide) hk1 hFc hP1 hD1
          generalize H1 = H at hP hS ⊢
          have hP : va_P (dC, dI) vwCl [(pal, .inr (5, [.int 0, .ref en.2.2.1, .int 0]))] H := hP
          have hD : va_D A [(pal, .inr (5, [.int 0, .ref en.2.2.1, .int 0]))] := hD
          have hR := en_R hR0 hN0 hS
          refine W.widen (k := 2) (n := 12) (Nat.le_of_ble_eq_true rfl) (Nat.le_of_ble_eq_true rfl) ?_
          have h_23 := hw
          refine lv_iload hx hb dX11_stuff_57 (lv_at hl 4 rfl) ?_
          refine lv_iconst (v := 0) hx hb dX11_stuff_59 (by decide) ?_
          refine lv_bipush (v := 9) hx hb dX11_stuff_60 (by decide) ?_
          have hPc := (hP.app hR).sub (ws' := [] ++ []) [] rfl
          have hDc := (en_DD hD hDr hN0 hAb).sub (ws' := [] ++ []) [] (by decide) rfl
          have hKc := hK.sub (tys' := []) [] rfl
          have hFc := va_free (wc := []) hD hS hA [] rfl
          refine va_calli (va_runS (As := [.int weight, .int 0, .int 9]) (rest := []) ⟨hx, hb, hml, hown, hts⟩ (c_X11_isWithin l dC dI b0 en H.size weight 0 9) (va_cwS 3 hts go_c_X11_stuff_2 rfl rfl rfl (by decide +kernel) ⟨Nat.le_of_ble_eq_true rfl, Nat.le_of_ble_eq_true rfl⟩) ⟨cP.blind, cP.use (en_z hb0 hS) (hE.on hAb hS) hPc hKc hDc trivial⟩ rfl rfl hl.1 rfl (lv_room (Nat.le_of_ble_eq_true rfl)) dX11_stuff_62 ⟨Nat.le_of_ble_eq_true rfl, Nat.le_of_ble_eq_true rfl⟩) hS (fun q _ h => hFc q h) hFc (fun r_24 u t H1 locs ht hvm hw hB hz1 hk1 hS => ?_)
          have hP1 : va_P (dC, dI) vwCl [] H1 := fun k q h => by simp at h
          have hD1 : va_D (va_A [] H.size) [] := ⟨fun i j p q h => by simp at h, fun k q h => by simp at h⟩
          try dsimp only at hw
          obtain ⟨hP, hD⟩ := va_join (wr := [(pal, .inr (5, [.int 0, .ref en.2.2.1, .int 0]))]) (w1 := []) hP hD [] [0] rfl rfl (by decide) (by decide) hk1 hFc hP1 hD1
          generalize H1 = H at hP hS ⊢
          have hP : va_P (dC, dI) vwCl [(pal, .inr (5, [.int 0, .ref en.2.2.1, .int 0]))] H := hP
          have hD : va_D A [(pal, .inr (5, [.int 0, .ref en.2.2.1, .int 0]))] := hD
          have hR := en_R hR0 hN0 hS
          refine W.widen (k := 2) (n := 12) (Nat.le_of_ble_eq_true rfl) (Nat.le_of_ble_eq_true rfl) ?_
          have h_25 := hw
          refine lv_if_eq (tgt := 83) hx hb dX11_stuff_65 (by decide) (fun c_26 => ?_) (fun c_26 => ?_)
          · skip
            refine lv_iconst (v := 0) hx hb dX11_stuff_83 (by decide) ?_
            have hPc := (hP.app hR).sub (ws' := [] ++ []) [] rfl
            have hDc := (en_DD hD hDr hN0 hAb).sub (ws' := [] ++ []) [] (by decide) rfl
            have hKc := hK.sub (tys' := []) [] rfl
            have hFc := va_free (wc := []) hD hS hA [] rfl
            refine vx_callv (vx_runS (As := [.int 0]) (rest := []) ⟨hx, hb, hml, hown, hts⟩ (c_X11_demandArgument l hst dC dI b0 en H.size 0) (va_cwS 1 hts go_c_X11_stuff_1 rfl rfl rfl (by decide +kernel) ⟨Nat.le_of_ble_eq_true rfl, Nat.le_of_ble_eq_true rfl⟩) ⟨cP.blind, cP.use (en_z hb0 hS) (hE.on hAb hS) hPc hKc hDc trivial⟩ rfl rfl hl.1 rfl (lv_room (Nat.le_of_ble_eq_true rfl)) dX11_stuff_84 ⟨Nat.le_of_ble_eq_true rfl, Nat.le_of_ble_eq_true rfl⟩) hS (fun q _ h => hFc q h) hFc (fun q _ h => hFc q h) (fun E ce q9 u t H1 locs ht hvm hpx hBX hz1 hk1 hS hce hcv hcl => ?_) (fun u t H1 locs ht hvm hw hB hz1 hk1 hS => ?_)
            · skip
              try dsimp only at hBX
              obtain ⟨rfl, hc⟩ := hBX
              refine vx_widen (k := 7) (n := 51) (Nat.le_of_ble_eq_true rfl) (Nat.le_of_ble_eq_true rfl) ?_
              exact vx_out (fun x hx => (hext x hx).elim) hlocks hce hcv hcl (fun t ht hW => ⟨(), trivial, ⟨rfl, (z_c_X11_stuff_394 c9 tone cover weight lamp hold fading yr z9 hnar_c9 hfit_c9 hnar_z9 hfit_z9 (Int32.not_lt.mp c_2) h_6 (b_yes h_8 c_9) (b_yes h_13 c_14) (b_yes h_18 c_19) h_23 (b_no h_25 c_26) hc)⟩, hS.F ht⟩) hS.2.2 (Nat.le_refl _) (Nat.le_refl _)
            have hP1 : va_P (dC, dI) vwCl [] H1 := fun k q h => by simp at h
            have hD1 : va_D (va_A [] H.size) [] := ⟨fun i j p q h => by simp at h, fun k q h => by simp at h⟩
            try dsimp only at hw
            obtain ⟨hP, hD⟩ := va_join (wr := [(pal, .inr (5, [.int 0, .ref en.2.2.1, .int 0]))]) (w1 := []) hP hD [] [0] rfl rfl (by decide) (by decide) hk1 hFc hP1 hD1
            generalize H1 = H at hP hS ⊢
            have hP : va_P (dC, dI) vwCl [(pal, .inr (5, [.int 0, .ref en.2.2.1, .int 0]))] H := hP
            have hD : va_D A [(pal, .inr (5, [.int 0, .ref en.2.2.1, .int 0]))] := hD
            have hR := en_R hR0 hN0 hS
            refine W.widen (k := 3) (n := 18) (Nat.le_of_ble_eq_true rfl) (Nat.le_of_ble_eq_true rfl) ?_
            have h_28 := hw
            exact absurd h_28 (by decide)
          · skip
            refine lv_iload hx hb dX11_stuff_68 (lv_at hl 5 rfl) ?_
            refine lv_iconst (v := 0) hx hb dX11_stuff_70 (by decide) ?_
            refine lv_bipush (v := 9) hx hb dX11_stuff_71 (by decide) ?_
            have hPc := (hP.app hR).sub (ws' := [] ++ []) [] rfl
            have hDc := (en_DD hD hDr hN0 hAb).sub (ws' := [] ++ []) [] (by decide) rfl
            have hKc := hK.sub (tys' := []) [] rfl
            have hFc := va_free (wc := []) hD hS hA [] rfl
            refine va_calli (va_runS (As := [.int lamp, .int 0, .int 9]) (rest := []) ⟨hx, hb, hml, hown, hts⟩ (c_X11_isWithin l dC dI b0 en H.size lamp 0 9) (va_cwS 3 hts go_c_X11_stuff_2 rfl rfl rfl (by decide +kernel) ⟨Nat.le_of_ble_eq_true rfl, Nat.le_of_ble_eq_true rfl⟩) ⟨cP.blind, cP.use (en_z hb0 hS) (hE.on hAb hS) hPc hKc hDc trivial⟩ rfl rfl hl.1 rfl (lv_room (Nat.le_of_ble_eq_true rfl)) dX11_stuff_73 ⟨Nat.le_of_ble_eq_true rfl, Nat.le_of_ble_eq_true rfl⟩) hS (fun q _ h => hFc q h) hFc (fun r_29 u t H1 locs ht hvm hw hB hz1 hk1 hS => ?_)
            have hP1 : va_P (dC, dI) vwCl [] H1 := fun k q h => by simp at h
            have hD1 : va_D (va_A [] H.size) [] := ⟨fun i j p q h => by simp at h, fun k q h => by simp at h⟩
            try dsimp only at hw
            obtain ⟨hP, hD⟩ := va_join (wr := [(pal, .inr (5, [.int 0, .ref en.2.2.1, .int 0]))]) (w1 := []) hP hD [] [0] rfl rfl (by decide) (by decide) hk1 hFc hP1 hD1
            generalize H1 = H at hP hS ⊢
            have hP : va_P (dC, dI) vwCl [(pal, .inr (5, [.int 0, .ref en.2.2.1, .int 0]))] H := hP
            have hD : va_D A [(pal, .inr (5, [.int 0, .ref en.2.2.1, .int 0]))] := hD
            have hR := en_R hR0 hN0 hS
            refine W.widen (k := 2) (n := 12) (Nat.le_of_ble_eq_true rfl) (Nat.le_of_ble_eq_true rfl) ?_
            have h_30 := hw
            refine lv_if_eq (tgt := 83) hx hb dX11_stuff_76 (by decide) (fun c_31 => ?_) (fun c_31 => ?_)
            · skip
              refine lv_iconst (v := 0) hx hb dX11_stuff_83 (by decide) ?_
              have hPc := (hP.app hR).sub (ws' := [] ++ []) [] rfl
              have hDc := (en_DD hD hDr hN0 hAb).sub (ws' := [] ++ []) [] (by decide) rfl
              have hKc := hK.sub (tys' := []) [] rfl
              have hFc := va_free (wc := []) hD hS hA [] rfl
              refine vx_callv (vx_runS (As := [.int 0]) (rest := []) ⟨hx, hb, hml, hown, hts⟩ (c_X11_demandArgument l hst dC dI b0 en H.size 0) (va_cwS 1 hts go_c_X11_stuff_1 rfl rfl rfl (by decide +kernel) ⟨Nat.le_of_ble_eq_true rfl, Nat.le_of_ble_eq_true rfl⟩) ⟨cP.blind, cP.use (en_z hb0 hS) (hE.on hAb hS) hPc hKc hDc trivial⟩ rfl rfl hl.1 rfl (lv_room (Nat.le_of_ble_eq_true rfl)) dX11_stuff_84 ⟨Nat.le_of_ble_eq_true rfl, Nat.le_of_ble_eq_true rfl⟩) hS (fun q _ h => hFc q h) hFc (fun q _ h => hFc q h) (fun E ce q9 u t H1 locs ht hvm hpx hBX hz1 hk1 hS hce hcv hcl => ?_) (fun u t H1 locs ht hvm hw hB hz1 hk1 hS => ?_)
              · skip
                try dsimp only at hBX
                obtain ⟨rfl, hc⟩ := hBX
                refine vx_widen (k := 7) (n := 51) (Nat.le_of_ble_eq_true rfl) (Nat.le_of_ble_eq_true rfl) ?_
                exact vx_out (fun x hx => (hext x hx).elim) hlocks hce hcv hcl (fun t ht hW => ⟨(), trivial, ⟨rfl, (z_c_X11_stuff_395 c9 tone cover weight lamp hold fading yr z9 hnar_c9 hfit_c9 hnar_z9 hfit_z9 (Int32.not_lt.mp c_2) h_6 (b_yes h_8 c_9) (b_yes h_13 c_14) (b_yes h_18 c_19) h_23 (b_yes h_25 c_26) (b_no h_30 c_31) hc)⟩, hS.F ht⟩) hS.2.2 (Nat.le_refl _) (Nat.le_refl _)
              have hP1 : va_P (dC, dI) vwCl [] H1 := fun k q h => by simp at h
              have hD1 : va_D (va_A [] H.size) [] := ⟨fun i j p q h => by simp at h, fun k q h => by simp at h⟩
              try dsimp only at hw
              obtain ⟨hP, hD⟩ := va_join (wr := [(pal, .inr (5, [.int 0, .ref en.2.2.1, .int 0]))]) (w1 := []) hP hD [] [0] rfl rfl (by decide) (by decide) hk1 hFc hP1 hD1
              generalize H1 = H at hP hS ⊢
              have hP : va_P (dC, dI) vwCl [(pal, .inr (5, [.int 0, .ref en.2.2.1, .int 0]))] H := hP
              have hD : va_D A [(pal, .inr (5, [.int 0, .ref en.2.2.1, .int 0]))] := hD
              have hR := en_R hR0 hN0 hS
              refine W.widen (k := 3) (n := 18) (Nat.le_of_ble_eq_true rfl) (Nat.le_of_ble_eq_true rfl) ?_
              have h_33 := hw
              exact absurd h_33 (by decide)
            · skip
              refine lv_iconst (v := 1) hx hb dX11_stuff_79 (by decide) ?_
              refine lv_goto (tgt := 84) hx hb dX11_stuff_80 (by decide) ?_
              have hPc := (hP.app hR).sub (ws' := [] ++ []) [] rfl
              have hDc := (en_DD hD hDr hN0 hAb).sub (ws' := [] ++ []) [] (by decide) rfl
              have hKc := hK.sub (tys' := []) [] rfl
              have hFc := va_free (wc := []) hD hS hA [] rfl
              refine vx_callv (vx_runS (As := [.int 1]) (rest := []) ⟨hx, hb, hml, hown, hts⟩ (c_X11_demandArgument l hst dC dI b0 en H.size 1) (va_cwS 1 hts go_c_X11_stuff_1 rfl rfl rfl (by decide +kernel) ⟨Nat.le_of_ble_eq_true rfl, Nat.le_of_ble_eq_true rfl⟩) ⟨cP.blind, cP.use (en_z hb0 hS) (hE.on hAb hS) hPc hKc hDc trivial⟩ rfl rfl hl.1 rfl (lv_room (Nat.le_of_ble_eq_true rfl)) dX11_stuff_84 ⟨Nat.le_of_ble_eq_true rfl, Nat.le_of_ble_eq_true rfl⟩) hS (fun q _ h => hFc q h) hFc (fun q _ h => hFc q h) (fun E ce q9 u t H1 locs ht hvm hpx hBX hz1 hk1 hS hce hcv hcl => ?_) (fun u t H1 locs ht hvm hw hB hz1 hk1 hS => ?_)
              · skip
                try dsimp only at hBX
                obtain ⟨rfl, hc⟩ := hBX
                exact absurd hc (by decide)
              have hP1 : va_P (dC, dI) vwCl [] H1 := fun k q h => by simp at h
              have hD1 : va_D (va_A [] H.size) [] := ⟨fun i j p q h => by simp at h, fun k q h => by simp at h⟩
              try dsimp only at hw
              obtain ⟨hP, hD⟩ := va_join (wr := [(pal, .inr (5, [.int 0, .ref en.2.2.1, .int 0]))]) (w1 := []) hP hD [] [0] rfl rfl (by decide) (by decide) hk1 hFc hP1 hD1
              generalize H1 = H at hP hS ⊢
              have hP : va_P (dC, dI) vwCl [(pal, .inr (5, [.int 0, .ref en.2.2.1, .int 0]))] H := hP
              have hD : va_D A [(pal, .inr (5, [.int 0, .ref en.2.2.1, .int 0]))] := hD
              have hR := en_R hR0 hN0 hS
              refine W.widen (k := 3) (n := 18) (Nat.le_of_ble_eq_true rfl) (Nat.le_of_ble_eq_true rfl) ?_
              have h_35 := hw
              refine lv_iload hx hb dX11_stuff_87 (lv_at hl 6 rfl) ?_
              refine lv_iconst (v := 0) hx hb dX11_stuff_89 (by decide) ?_
              refine lv_bipush (v := 9) hx hb dX11_stuff_90 (by decide) ?_
              have hPc := (hP.app hR).sub (ws' := [] ++ []) [] rfl
              have hDc := (en_DD hD hDr hN0 hAb).sub (ws' := [] ++ []) [] (by decide) rfl
              have hKc := hK.sub (tys' := []) [] rfl
              have hFc := va_free (wc := []) hD hS hA [] rfl
              refine va_calli (va_runS (As := [.int hold, .int 0, .int 9]) (rest := []) ⟨hx, hb, hml, hown, hts⟩ (c_X11_isWithin l dC dI b0 en H.size hold 0 9) (va_cwS 3 hts go_c_X11_stuff_2 rfl rfl rfl (by decide +kernel) ⟨Nat.le_of_ble_eq_true rfl, Nat.le_of_ble_eq_true rfl⟩) ⟨cP.blind, cP.use (en_z hb0 hS) (hE.on hAb hS) hPc hKc hDc trivial⟩ rfl rfl hl.1 rfl (lv_room (Nat.le_of_ble_eq_true rfl)) dX11_stuff_92 ⟨Nat.le_of_ble_eq_true rfl, Nat.le_of_ble_eq_true rfl⟩) hS (fun q _ h => hFc q h) hFc (fun r_36 u t H1 locs ht hvm hw hB hz1 hk1 hS => ?_)
              have hP1 : va_P (dC, dI) vwCl [] H1 := fun k q h => by simp at h
              have hD1 : va_D (va_A [] H.size) [] := ⟨fun i j p q h => by simp at h, fun k q h => by simp at h⟩
              try dsimp only at hw
              obtain ⟨hP, hD⟩ := va_join (wr := [(pal, .inr (5, [.int 0, .ref en.2.2.1, .int 0]))]) (w1 := []) hP hD [] [0] rfl rfl (by decide) (by decide) hk1 hFc hP1 hD1
              generalize H1 = H at hP hS ⊢
              have hP : va_P (dC, dI) vwCl [(pal, .inr (5, [.int 0, .ref en.2.2.1, .int 0]))] H := hP
              have hD : va_D A [(pal, .inr (5, [.int 0, .ref en.2.2.1, .int 0]))] := hD
              have hR := en_R hR0 hN0 hS
              refine W.widen (k := 3) (n := 18) (Nat.le_of_ble_eq_true rfl) (Nat.le_of_ble_eq_true rfl) ?_
              have h_37 := hw
              refine lv_if_eq (tgt := 113) hx hb dX11_stuff_95 (by decide) (fun c_38 => ?_) (fun c_38 => ?_)
              · skip
                refine lv_iconst (v := 0) hx hb dX11_stuff_113 (by decide) ?_
                have hPc := (hP.app hR).sub (ws' := [] ++ []) [] rfl
                have hDc := (en_DD hD hDr hN0 hAb).sub (ws' := [] ++ []) [] (by decide) rfl
                have hKc := hK.sub (tys' := []) [] rfl
                have hFc := va_free (wc := []) hD hS hA [] rfl
                refine vx_callv (vx_runS (As := [.int 0]) (rest := []) ⟨hx, hb, hml, hown, hts⟩ (c_X11_demandArgument l hst dC dI b0 en H.size 0) (va_cwS 1 hts go_c_X11_stuff_1 rfl rfl rfl (by decide +kernel) ⟨Nat.le_of_ble_eq_true rfl, Nat.le_of_ble_eq_true rfl⟩) ⟨cP.blind, cP.use (en_z hb0 hS) (hE.on hAb hS) hPc hKc hDc trivial⟩ rfl rfl hl.1 rfl (lv_room (Nat.le_of_ble_eq_true rfl)) dX11_stuff_114 ⟨Nat.le_of_ble_eq_true rfl, Nat.le_of_ble_eq_true rfl⟩) hS (fun q _ h => hFc q h) hFc (fun q _ h => hFc q h) (fun E ce q9 u t H1 locs ht hvm hpx hBX hz1 hk1 hS hce hcv hcl => ?_) (fun u t H1 locs ht hvm hw hB hz1 hk1 hS => ?_)
                · skip
                  try dsimp only at hBX
                  obtain ⟨rfl, hc⟩ := hBX
                  refine vx_widen (k := 7) (n := 51) (Nat.le_of_ble_eq_true rfl) (Nat.le_of_ble_eq_true rfl) ?_
                  exact vx_out (fun x hx => (hext x hx).elim) hlocks hce hcv hcl (fun t ht hW => ⟨(), trivial, ⟨rfl, (z_c_X11_stuff_396 c9 tone cover weight lamp hold fading yr z9 hnar_c9 hfit_c9 hnar_z9 hfit_z9 (Int32.not_lt.mp c_2) h_6 (b_yes h_8 c_9) (b_yes h_13 c_14) (b_yes h_18 c_19) h_23 (b_yes h_25 c_26) (b_yes h_30 c_31) h_35 (b_no h_37 c_38) hc)⟩, hS.F ht⟩) hS.2.2 (Nat.le_refl _) (Nat.le_refl _)
                have hP1 : va_P (dC, dI) vwCl [] H1 := fun k q h => by simp at h
                have hD1 : va_D (va_A [] H.size) [] := ⟨fun i j p q h => by simp at h, fun k q h => by simp at h⟩
                try dsimp only at hw
                obtain ⟨hP, hD⟩ := va_join (wr := [(pal, .inr (5, [.int 0, .ref en.2.2.1, .int 0]))]) (w1 := []) hP hD [] [0] rfl rfl (by decide) (by decide) hk1 hFc hP1 hD1
                generalize H1 = H at hP hS ⊢
                have hP : va_P (dC, dI) vwCl [(pal, .inr (5, [.int 0, .ref en.2.2.1, .int 0]))] H := hP
                have hD : va_D A [(pal, .inr (5, [.int 0, .ref en.2.2.1, .int 0]))] := hD
                have hR := en_R hR0 hN0 hS
                refine W.widen (k := 4) (n := 24) (Nat.le_of_ble_eq_true rfl) (Nat.le_of_ble_eq_true rfl) ?_
                have h_40 := hw
                exact absurd h_40 (by decide)
              · skip
                refine lv_iload hx hb dX11_stuff_98 (lv_at hl 7 rfl) ?_
                refine lv_iconst (v := 0) hx hb dX11_stuff_100 (by decide) ?_
                refine lv_bipush (v := 9) hx hb dX11_stuff_101 (by decide) ?_
                have hPc := (hP.app hR).sub (ws' := [] ++ []) [] rfl
                have hDc := (en_DD hD hDr hN0 hAb).sub (ws' := [] ++ []) [] (by decide) rfl
                have hKc := hK.sub (tys' := []) [] rfl
                have hFc := va_free (wc := []) hD hS hA [] rfl
                refine va_calli (va_runS (As := [.int fading, .int 0, .int 9]) (rest := []) ⟨hx, hb, hml, hown, hts⟩ (c_X11_isWithin l dC dI b0 en H.size fading 0 9) (va_cwS 3 hts go_c_X11_stuff_2 rfl rfl rfl (by decide +kernel) ⟨Nat.le_of_ble_eq_true rfl, Nat.le_of_ble_eq_true rfl⟩) ⟨cP.blind, cP.use (en_z hb0 hS) (hE.on hAb hS) hPc hKc hDc trivial⟩ rfl rfl hl.1 rfl (lv_room (Nat.le_of_ble_eq_true rfl)) dX11_stuff_103 ⟨Nat.le_of_ble_eq_true rfl, Nat.le_of_ble_eq_true rfl⟩) hS (fun q _ h => hFc q h) hFc (fun r_41 u t H1 locs ht hvm hw hB hz1 hk1 hS => ?_)
                have hP1 : va_P (dC, dI) vwCl [] H1 := fun k q h => by simp at h
                have hD1 : va_D (va_A [] H.size) [] := ⟨fun i j p q h => by simp at h, fun k q h => by simp at h⟩
                try dsimp only at hw
                obtain ⟨hP, hD⟩ := va_join (wr := [(pal, .inr (5, [.int 0, .ref en.2.2.1, .int 0]))]) (w1 := []) hP hD [] [0] rfl rfl (by decide) (by decide) hk1 hFc hP1 hD1
                generalize H1 = H at hP hS ⊢
                have hP : va_P (dC, dI) vwCl [(pal, .inr (5, [.int 0, .ref en.2.2.1, .int 0]))] H := hP
                have hD : va_D A [(pal, .inr (5, [.int 0, .ref en.2.2.1, .int 0]))] := hD
                have hR := en_R hR0 hN0 hS
                refine W.widen (k := 3) (n := 18) (Nat.le_of_ble_eq_true rfl) (Nat.le_of_ble_eq_true rfl) ?_
                have h_42 := hw
                refine lv_if_eq (tgt := 113) hx hb dX11_stuff_106 (by decide) (fun c_43 => ?_) (fun c_43 => ?_)
                · skip
                  refine lv_iconst (v := 0) hx hb dX11_stuff_113 (by decide) ?_
                  have hPc := (hP.app hR).sub (ws' := [] ++ []) [] rfl
                  have hDc := (en_DD hD hDr hN0 hAb).sub (ws' := [] ++ []) [] (by decide) rfl
                  have hKc := hK.sub (tys' := []) [] rfl
                  have hFc := va_free (wc := []) hD hS hA [] rfl
                  refine vx_callv (vx_runS (As := [.int 0]) (rest := []) ⟨hx, hb, hml, hown, hts⟩ (c_X11_demandArgument l hst dC dI b0 en H.size 0) (va_cwS 1 hts go_c_X11_stuff_1 rfl rfl rfl (by decide +kernel) ⟨Nat.le_of_ble_eq_true rfl, Nat.le_of_ble_eq_true rfl⟩) ⟨cP.blind, cP.use (en_z hb0 hS) (hE.on hAb hS) hPc hKc hDc trivial⟩ rfl rfl hl.1 rfl (lv_room (Nat.le_of_ble_eq_true rfl)) dX11_stuff_114 ⟨Nat.le_of_ble_eq_true rfl, Nat.le_of_ble_eq_true rfl⟩) hS (fun q _ h => hFc q h) hFc (fun q _ h => hFc q h) (fun E ce q9 u t H1 locs ht hvm hpx hBX hz1 hk1 hS hce hcv hcl => ?_) (fun u t H1 locs ht hvm hw hB hz1 hk1 hS => ?_)
                  · skip
                    try dsimp only at hBX
                    obtain ⟨rfl, hc⟩ := hBX
                    refine vx_widen (k := 7) (n := 51) (Nat.le_of_ble_eq_true rfl) (Nat.le_of_ble_eq_true rfl) ?_
                    exact vx_out (fun x hx => (hext x hx).elim) hlocks hce hcv hcl (fun t ht hW => ⟨(), trivial, ⟨rfl, (z_c_X11_stuff_397 c9 tone cover weight lamp hold fading yr z9 hnar_c9 hfit_c9 hnar_z9 hfit_z9 (Int32.not_lt.mp c_2) h_6 (b_yes h_8 c_9) (b_yes h_13 c_14) (b_yes h_18 c_19) h_23 (b_yes h_25 c_26) (b_yes h_30 c_31) h_35 (b_yes h_37 c_38) (b_no h_42 c_43) hc)⟩, hS.F ht⟩) hS.2.2 (Nat.le_refl _) (Nat.le_refl _)
                  have hP1 : va_P (dC, dI) vwCl [] H1 := fun k q h => by simp at h
                  have hD1 : va_D (va_A [] H.size) [] := ⟨fun i j p q h => by simp at h, fun k q h => by simp at h⟩
                  try dsimp only at hw
                  obtain ⟨hP, hD⟩ := va_join (wr := [(pal, .inr (5, [.int 0, .ref en.2.2.1, .int 0]))]) (w1 := []) hP hD [] [0] rfl rfl (by decide) (by decide) hk1 hFc hP1 hD1
                  generalize H1 = H at hP hS ⊢
                  have hP : va_P (dC, dI) vwCl [(pal, .inr (5, [.int 0, .ref en.2.2.1, .int 0]))] H := hP
                  have hD : va_D A [(pal, .inr (5, [.int 0, .ref en.2.2.1, .int 0]))] := hD
                  have hR := en_R hR0 hN0 hS
                  refine W.widen (k := 4) (n := 24) (Nat.le_of_ble_eq_true rfl) (Nat.le_of_ble_eq_true rfl) ?_
                  have h_45 := hw
                  exact absurd h_45 (by decide)
                · skip
                  refine lv_iconst (v := 1) hx hb dX11_stuff_109 (by decide) ?_
                  refine lv_goto (tgt := 114) hx hb dX11_stuff_110 (by decide) ?_
                  have hPc := (hP.app hR).sub (ws' := [] ++ []) [] rfl
                  have hDc := (en_DD hD hDr hN0 hAb).sub (ws' := [] ++ []) [] (by decide) rfl
                  have hKc := hK.sub (tys' := []) [] rfl
                  have hFc := va_free (wc := []) hD hS hA [] rfl
                  refine vx_callv (vx_runS (As := [.int 1]) (rest := []) ⟨hx, hb, hml, hown, hts⟩ (c_X11_demandArgument l hst dC dI b0 en H.size 1) (va_cwS 1 hts go_c_X11_stuff_1 rfl rfl rfl (by decide +kernel) ⟨Nat.le_of_ble_eq_true rfl, Nat.le_of_ble_eq_true rfl⟩) ⟨cP.blind, cP.use (en_z hb0 hS) (hE.on hAb hS) hPc hKc hDc trivial⟩ rfl rfl hl.1 rfl (lv_room (Nat.le_of_ble_eq_true rfl)) dX11_stuff_114 ⟨Nat.le_of_ble_eq_true rfl, Nat.le_of_ble_eq_true rfl⟩) hS (fun q _ h => hFc q h) hFc (fun q _ h => hFc q h) (fun E ce q9 u t H1 locs ht hvm hpx hBX hz1 hk1 hS hce hcv hcl => ?_) (fun u t H1 locs ht hvm hw hB hz1 hk1 hS => ?_)
                  · skip
                    try dsimp only at hBX
                    obtain ⟨rfl, hc⟩ := hBX
                    exact absurd hc (by decide)
                  have hP1 : va_P (dC, dI) vwCl [] H1 := fun k q h => by simp at h
                  have hD1 : va_D (va_A [] H.size) [] := ⟨fun i j p q h => by simp at h, fun k q h => by simp at h⟩
                  try dsimp only at hw
                  obtain ⟨hP, hD⟩ := va_join (wr := [(pal, .inr (5, [.int 0, .ref en.2.2.1, .int 0]))]) (w1 := []) hP hD [] [0] rfl rfl (by decide) (by decide) hk1 hFc hP1 hD1
                  generalize H1 = H at hP hS ⊢
                  have hP : va_P (dC, dI) vwCl [(pal, .inr (5, [.int 0, .ref en.2.2.1, .int 0]))] H := hP
                  have hD : va_D A [(pal, .inr (5, [.int 0, .ref en.2.2.1, .int 0]))] := hD
                  have hR := en_R hR0 hN0 hS
                  refine W.widen (k := 4) (n := 24) (Nat.le_of_ble_eq_true rfl) (Nat.le_of_ble_eq_true rfl) ?_
                  have h_47 := hw
                  refine lv_aload_n hx hb dX11_stuff_117 rfl (lv_at hl 0 rfl) ?_
                  refine va_get (D := (dC, dI)) (ci := 17) (v := .ref pal) (C := RX11) (T := TX11) (N := 14) hx hb hts (by decide +kernel) hown hK hR 0 rfl rfl 0 (by decide) (hts (.fieldLink RX11 10 "Underpaint" "palette" "Ljava/util/ArrayList;") (by decide +kernel)) (fun _ h9 => h9) rfl dX11_stuff_118 ?_
                  have hPc := (hP.app hR).sub (ws' := [] ++ [(pal, .inr (5, [.int 0, .ref en.2.2.1, .int 0]))]) [0] rfl
                  have hDc := (en_DD hD hDr hN0 hAb).sub (ws' := [] ++ [(pal, .inr (5, [.int 0, .ref en.2.2.1, .int 0]))]) [0] (by decide) rfl
                  have hKc := hK.sub (tys' := []) [] rfl
                  have hFc := va_free (wc := []) hD hS hA [] rfl
                  refine va_calli (va_runV (As := []) (rest := []) ⟨hx, hb, hml, hown, hts⟩ (c_Jx4a65c_size l dC dI b0 en H.size pal en.2.2.1 0 0) (cwV 0 hts go_c_X11_stuff_3 rfl rfl rfl (by decide +kernel) ⟨Nat.le_of_ble_eq_true rfl, Nat.le_of_ble_eq_true rfl⟩) ⟨cP.blind, va_recv hK hP (ci := 5) (q0 := 0) rfl rfl, cP.use (en_z hb0 hS) (hE.on hAb hS) hPc hKc hDc trivial⟩ rfl rfl hl.1 rfl (lv_room (Nat.le_of_ble_eq_true rfl)) dX11_stuff_121 ⟨Nat.le_of_ble_eq_true rfl, Nat.le_of_ble_eq_true rfl⟩) hS (fun q _ h => hFc q h) hFc (fun r_48 u t H1 locs ht hvm hw hB hz1 hk1 hS => ?_)
                  have hP1 : va_P (dC, dI) vwCl [] H1 := fun k q h => by simp at h
                  have hD1 : va_D (va_A [] H.size) [] := ⟨fun i j p q h => by simp at h, fun k q h => by simp at h⟩
                  try dsimp only at hw
                  obtain ⟨hP, hD⟩ := va_join (wr := [(pal, .inr (5, [.int 0, .ref en.2.2.1, .int 0]))]) (w1 := []) hP hD [] [0] rfl rfl (by decide) (by decide) hk1 hFc hP1 hD1
                  generalize H1 = H at hP hS ⊢
                  have hP : va_P (dC, dI) vwCl [(pal, .inr (5, [.int 0, .ref en.2.2.1, .int 0]))] H := hP
                  have hD : va_D A [(pal, .inr (5, [.int 0, .ref en.2.2.1, .int 0]))] := hD
                  have hR := en_R hR0 hN0 hS
                  refine W.widen (k := 4) (n := 24) (Nat.le_of_ble_eq_true rfl) (Nat.le_of_ble_eq_true rfl) ?_
                  subst r_48
                  refine lv_bipush (v := 12) hx hb dX11_stuff_124 (by decide) ?_
                  refine lv_icmp_ge (tgt := 133) hx hb dX11_stuff_126 (by decide) (fun c_49 => absurd c_49 (by decide)) (fun c_49 => ?_)
                  refine lv_iconst (v := 1) hx hb dX11_stuff_129 (by decide) ?_
                  refine lv_goto (tgt := 134) hx hb dX11_stuff_130 (by decide) ?_
                  have hPc := (hP.app hR).sub (ws' := [] ++ []) [] rfl
                  have hDc := (en_DD hD hDr hN0 hAb).sub (ws' := [] ++ []) [] (by decide) rfl
                  have hKc := hK.sub (tys' := []) [] rfl
                  have hFc := va_free (wc := []) hD hS hA [] rfl
                  refine vx_callv (vx_runS (As := [.int 1]) (rest := []) ⟨hx, hb, hml, hown, hts⟩ (c_X11_demandRoom l hst dC dI b0 en H.size 1) (va_cwS 1 hts go_c_X11_stuff_4 rfl rfl rfl (by decide +kernel) ⟨Nat.le_of_ble_eq_true rfl, Nat.le_of_ble_eq_true rfl⟩) ⟨cP.blind, cP.use (en_z hb0 hS) (hE.on hAb hS) hPc hKc hDc trivial⟩ rfl rfl hl.1 rfl (lv_room (Nat.le_of_ble_eq_true rfl)) dX11_stuff_134 ⟨Nat.le_of_ble_eq_true rfl, Nat.le_of_ble_eq_true rfl⟩) hS (fun q _ h => hFc q h) hFc (fun q _ h => hFc q h) (fun E ce q9 u t H1 locs ht hvm hpx hBX hz1 hk1 hS hce hcv hcl => ?_) (fun u t H1 locs ht hvm hw hB hz1 hk1 hS => ?_)
                  · skip
                    try dsimp only at hBX
                    obtain ⟨rfl, hc⟩ := hBX
                    exact absurd hc (by decide)
                  have hP1 : va_P (dC, dI) vwCl [] H1 := fun k q h => by simp at h
                  have hD1 : va_D (va_A [] H.size) [] := ⟨fun i j p q h => by simp at h, fun k q h => by simp at h⟩
                  try dsimp only at hw
                  obtain ⟨hP, hD⟩ := va_join (wr := [(pal, .inr (5, [.int 0, .ref en.2.2.1, .int 0]))]) (w1 := []) hP hD [] [0] rfl rfl (by decide) (by decide) hk1 hFc hP1 hD1
                  generalize H1 = H at hP hS ⊢
                  have hP : va_P (dC, dI) vwCl [(pal, .inr (5, [.int 0, .ref en.2.2.1, .int 0]))] H := hP
                  have hD : va_D A [(pal, .inr (5, [.int 0, .ref en.2.2.1, .int 0]))] := hD
                  have hR := en_R hR0 hN0 hS
                  refine W.widen (k := 5) (n := 30) (Nat.le_of_ble_eq_true rfl) (Nat.le_of_ble_eq_true rfl) ?_
                  have h_51 := hw
                  have hz9 := hS.1
                  refine va_newX (ci := 15) (fs := [.int 0, .int 0, .int 0, .int 0, .int 0, .int 0, .int 0, .int 0, .int 0, .int 0, .int 0]) (C := RX9) (T := TX9) (N := 11) hx hb hts (by decide +kernel) tyX9 tyX9_ok hown (hts (.classLink RX11 50 RX9) (by decide +kernel)) (hts (.instantiable RX9 11) (by decide +kernel)) (hts (.initialized RX9) (by decide +kernel)) hK hP hD hS hA rfl (fun j hj => by rcases (show j = 0 ∨ j = 1 ∨ j = 2 ∨ j = 3 ∨ j = 4 ∨ j = 5 ∨ j = 6 ∨ j = 7 ∨ j = 8 ∨ j = 9 ∨ j = 10 by omega) with rfl | rfl | rfl | rfl | rfl | rfl | rfl | rfl | rfl | rfl | rfl <;> rfl) (Nat.le_of_ble_eq_true rfl) (Nat.le_of_ble_eq_true rfl) dX11_stuff_137 (fun q_52 H hP hD hS hoq hoz => ?_)
                  have hP : va_P (dC, dI) vwCl [(pal, .inr (5, [.int 0, .ref en.2.2.1, .int 0])), (q_52, .inr (15, [.int 0, .int 0, .int 0, .int 0, .int 0, .int 0, .int 0, .int 0, .int 0, .int 0, .int 0]))] H := hP
                  have hD : va_D A [(pal, .inr (5, [.int 0, .ref en.2.2.1, .int 0])), (q_52, .inr (15, [.int 0, .int 0, .int 0, .int 0, .int 0, .int 0, .int 0, .int 0, .int 0, .int 0, .int 0]))] := hD
                  have hR := en_R hR0 hN0 hS
                  refine W.widen (k := 6) (n := 41) (Nat.le_of_ble_eq_true rfl) (Nat.le_of_ble_eq_true rfl) ?_
                  have hgz_q_52 : s.heap.size ≤ q_52 := by rw [hoz]; exact hz9
                  have hoz_q_52 := hoz
                  refine lv_dup hx hb dX11_stuff_140 rfl ?_
                  refine lv_aload_n hx hb dX11_stuff_141 rfl (lv_at hl 0 rfl) ?_
                  refine va_get (D := (dC, dI)) (ci := 17) (v := .ref pal) (C := RX11) (T := TX11) (N := 14) hx hb hts (by decide +kernel) hown hK hR 0 rfl rfl 0 (by decide) (hts (.fieldLink RX11 10 "Underpaint" "palette" "Ljava/util/ArrayList;") (by decide +kernel)) (fun _ h9 => h9) rfl dX11_stuff_142 ?_
                  have hPc := (hP.app hR).sub (ws' := [] ++ [(pal, .inr (5, [.int 0, .ref en.2.2.1, .int 0]))]) [0] rfl
                  have hDc := (en_DD hD hDr hN0 hAb).sub (ws' := [] ++ [(pal, .inr (5, [.int 0, .ref en.2.2.1, .int 0]))]) [0] (by decide) rfl
                  have hKc := hK.sub (tys' := []) [] rfl
                  have hFc := va_free (wc := []) hD hS hA [] rfl
                  refine va_calli (va_runV (As := []) (rest := [.ref q_52, .ref q_52]) ⟨hx, hb, hml, hown, hts⟩ (c_Jx4a65c_size l dC dI b0 en H.size pal en.2.2.1 0 0) (cwV 0 hts go_c_X11_stuff_3 rfl rfl rfl (by decide +kernel) ⟨Nat.le_of_ble_eq_true rfl, Nat.le_of_ble_eq_true rfl⟩) ⟨cP.blind, va_recv hK hP (ci := 5) (q0 := 0) rfl rfl, cP.use (en_z hb0 hS) (hE.on hAb hS) hPc hKc hDc trivial⟩ rfl rfl hl.1 rfl (lv_room (Nat.le_of_ble_eq_true rfl)) dX11_stuff_145 ⟨Nat.le_of_ble_eq_true rfl, Nat.le_of_ble_eq_true rfl⟩) hS (fun q _ h => hFc q h) hFc (fun r_53 u t H1 locs ht hvm hw hB hz1 hk1 hS => ?_)
                  have hP1 : va_P (dC, dI) vwCl [] H1 := fun k q h => by simp at h
                  have hD1 : va_D (va_A [] H.size) [] := ⟨fun i j p q h => by simp at h, fun k q h => by simp at h⟩
                  try dsimp only at hw
                  obtain ⟨hP, hD⟩ := va_join (wr := [(pal, .inr (5, [.int 0, .ref en.2.2.1, .int 0])), (q_52, .inr (15, [.int 0, .int 0, .int 0, .int 0, .int 0, .int 0, .int 0, .int 0, .int 0, .int 0, .int 0]))]) (w1 := []) hP hD [] [0, 1] rfl rfl (by decide) (by decide) hk1 hFc hP1 hD1
                  generalize H1 = H at hP hS ⊢
                  have hP : va_P (dC, dI) vwCl [(pal, .inr (5, [.int 0, .ref en.2.2.1, .int 0])), (q_52, .inr (15, [.int 0, .int 0, .int 0, .int 0, .int 0, .int 0, .int 0, .int 0, .int 0, .int 0, .int 0]))] H := hP
                  have hD : va_D A [(pal, .inr (5, [.int 0, .ref en.2.2.1, .int 0])), (q_52, .inr (15, [.int 0, .int 0, .int 0, .int 0, .int 0, .int 0, .int 0, .int 0, .int 0, .int 0, .int 0]))] := hD
                  have hR := en_R hR0 hN0 hS
                  refine W.widen (k := 6) (n := 41) (Nat.le_of_ble_eq_true rfl) (Nat.le_of_ble_eq_true rfl) ?_
                  subst r_53
                  refine lv_iload_n hx hb dX11_stuff_148 rfl (lv_at hl 1 rfl) ?_
                  have hPc := (hP.app hR).sub (ws' := [(q_52, .inr (15, [.int 0, .int 0, .int 0, .int 0, .int 0, .int 0, .int 0, .int 0, .int 0, .int 0, .int 0]))] ++ []) [1] rfl
                  have hDc := (en_DD hD hDr hN0 hAb).sub (ws' := [(q_52, .inr (15, [.int 0, .int 0, .int 0, .int 0, .int 0, .int 0, .int 0, .int 0, .int 0, .int 0, .int 0]))] ++ []) [1] (by decide) rfl
                  have hKc := hK.sub (tys' := []) [] rfl
                  have hFc := va_free (wc := [(q_52, .inr (15, [.int 0, .int 0, .int 0, .int 0, .int 0, .int 0, .int 0, .int 0, .int 0, .int 0, .int 0]))]) hD hS hA [1] rfl
                  refine va_callv (va_runI (As := [.int 0, .int c9]) (rest := [.ref q_52]) ⟨hx, hb, hml, hown, hts⟩ (c_X9_init l dC dI b0 en H.size q_52 0 c9 hnar_c9 hfit_c9) (cwI 2 hts go_c_X11_stuff_5 rfl rfl rfl (hts (.initialized RX9) (by decide +kernel)) (hts (.methodLink RX11 52 yX9_init) (by decide +kernel)) (hts (.instanceMethod yX9_init) (by decide +kernel)) rfl (by decide +kernel) ⟨Nat.le_of_ble_eq_true rfl, Nat.le_of_ble_eq_true rfl⟩) ⟨cP.blind, cP.use (en_z hb0 hS) (hE.on hAb hS) hPc hKc hDc trivial⟩ rfl rfl hl.1 rfl (lv_room (Nat.le_of_ble_eq_true rfl)) dX11_stuff_149 ⟨Nat.le_of_ble_eq_true rfl, Nat.le_of_ble_eq_true rfl⟩) hS (fun q _ h => hFc q h) hFc (fun u t H1 locs ht hvm hw hB hz1 hk1 hS => ?_)
                  obtain ⟨hP1, hK1, hD1, hF1⟩ := hB
                  rw [ht] at hP1
                  try rw [ht] at hF1
                  have hK1 := va_K.moved hvm.symm hK1
                  try dsimp only at hw
                  obtain ⟨hP, hD⟩ := va_join (wr := [(pal, .inr (5, [.int 0, .ref en.2.2.1, .int 0]))]) (w1 := [(q_52, .inr (15, [.int 0, .int c9, .int 0, .int 0, .int 0, .int 0, .int 0, .int 0, .int 0, .int 0, .int 0]))]) hP hD [1] [0] rfl rfl (by decide) (by decide) hk1 hFc hP1 hD1
                  generalize H1 = H at hP hS ⊢
                  have hP : va_P (dC, dI) vwCl [(pal, .inr (5, [.int 0, .ref en.2.2.1, .int 0])), (q_52, .inr (15, [.int 0, .int c9, .int 0, .int 0, .int 0, .int 0, .int 0, .int 0, .int 0, .int 0, .int 0]))] H := hP
                  have hD : va_D A [(pal, .inr (5, [.int 0, .ref en.2.2.1, .int 0])), (q_52, .inr (15, [.int 0, .int c9, .int 0, .int 0, .int 0, .int 0, .int 0, .int 0, .int 0, .int 0, .int 0]))] := hD
                  have hR := en_R hR0 hN0 hS
                  refine W.widen (k := 6) (n := 41) (Nat.le_of_ble_eq_true rfl) (Nat.le_of_ble_eq_true rfl) ?_
                  refine lv_astore (lv' := [(10, .ref q_52), (0, .ref h), (1, .int c9), (2, .int tone), (3, .int cover), (4, .int weight), (5, .int lamp), (6, .int hold), (7, .int fading), (8, .int yr), (9, .int z9)]) hx hb dX11_stuff_152 hl (by decide) rfl (fun ls hl => ?_)
                  refine lv_aload hx hb dX11_stuff_154 (lv_at hl 0 rfl) ?_
                  refine lv_iload_n hx hb dX11_stuff_156 rfl (lv_at hl 3 rfl) ?_
                  refine va_put (D := (dC, dI)) (ci := 15) (v := .int tone) (ty := .int) (C := RX9) (T := TX9) (N := 11) hx hb hts (by decide +kernel) tyX9 tyX9_ok nmX9 hown hK hP hD hS 1 rfl rfl 2 (by decide) (hts (.fieldLink RX11 102 "Underpaint$Stuff" "tone" "I") (by decide +kernel)) (fun _ h9 => h9) rfl (by decide +kernel) rfl rfl (Nat.le_of_ble_eq_true rfl) dX11_stuff_157 (fun H locs hP hD hS => ?_)
                  have hP : va_P (dC, dI) vwCl [(pal, .inr (5, [.int 0, .ref en.2.2.1, .int 0])), (q_52, .inr (15, [.int 0, .int c9, .int tone, .int 0, .int 0, .int 0, .int 0, .int 0, .int 0, .int 0, .int 0]))] H := hP
                  have hD : va_D A [(pal, .inr (5, [.int 0, .ref en.2.2.1, .int 0])), (q_52, .inr (15, [.int 0, .int c9, .int tone, .int 0, .int 0, .int 0, .int 0, .int 0, .int 0, .int 0, .int 0]))] := hD
                  have hR := en_R hR0 hN0 hS
                  refine lv_aload hx hb dX11_stuff_160 (lv_at hl 0 rfl) ?_
                  refine lv_iload_n hx hb dX11_stuff_162 rfl (lv_at hl 4 rfl) ?_
                  refine va_put (D := (dC, dI)) (ci := 15) (v := .int cover) (ty := .int) (C := RX9) (T := TX9) (N := 11) hx hb hts (by decide +kernel) tyX9 tyX9_ok nmX9 hown hK hP hD hS 1 rfl rfl 3 (by decide) (hts (.fieldLink RX11 105 "Underpaint$Stuff" "cover" "I") (by decide +kernel)) (fun _ h9 => h9) rfl (by decide +kernel) rfl rfl (Nat.le_of_ble_eq_true rfl) dX11_stuff_163 (fun H locs hP hD hS => ?_)
                  have hP : va_P (dC, dI) vwCl [(pal, .inr (5, [.int 0, .ref en.2.2.1, .int 0])), (q_52, .inr (15, [.int 0, .int c9, .int tone, .int cover, .int 0, .int 0, .int 0, .int 0, .int 0, .int 0, .int 0]))] H := hP
                  have hD : va_D A [(pal, .inr (5, [.int 0, .ref en.2.2.1, .int 0])), (q_52, .inr (15, [.int 0, .int c9, .int tone, .int cover, .int 0, .int 0, .int 0, .int 0, .int 0, .int 0, .int 0]))] := hD
                  have hR := en_R hR0 hN0 hS
                  refine lv_aload hx hb dX11_stuff_166 (lv_at hl 0 rfl) ?_
                  refine lv_iload hx hb dX11_stuff_168 (lv_at hl 5 rfl) ?_
                  refine va_put (D := (dC, dI)) (ci := 15) (v := .int weight) (ty := .int) (C := RX9) (T := TX9) (N := 11) hx hb hts (by decide +kernel) tyX9 tyX9_ok nmX9 hown hK hP hD hS 1 rfl rfl 4 (by decide) (hts (.fieldLink RX11 108 "Underpaint$Stuff" "weight" "I") (by decide +kernel)) (fun _ h9 => h9) rfl (by decide +kernel) rfl rfl (Nat.le_of_ble_eq_true rfl) dX11_stuff_170 (fun H locs hP hD hS => ?_)
                  have hP : va_P (dC, dI) vwCl [(pal, .inr (5, [.int 0, .ref en.2.2.1, .int 0])), (q_52, .inr (15, [.int 0, .int c9, .int tone, .int cover, .int weight, .int 0, .int 0, .int 0, .int 0, .int 0, .int 0]))] H := hP
                  have hD : va_D A [(pal, .inr (5, [.int 0, .ref en.2.2.1, .int 0])), (q_52, .inr (15, [.int 0, .int c9, .int tone, .int cover, .int weight, .int 0, .int 0, .int 0, .int 0, .int 0, .int 0]))] := hD
                  have hR := en_R hR0 hN0 hS
                  refine lv_aload hx hb dX11_stuff_173 (lv_at hl 0 rfl) ?_
                  refine lv_iload hx hb dX11_stuff_175 (lv_at hl 6 rfl) ?_
                  refine va_put (D := (dC, dI)) (ci := 15) (v := .int lamp) (ty := .int) (C := RX9) (T := TX9) (N := 11) hx hb hts (by decide +kernel) tyX9 tyX9_ok nmX9 hown hK hP hD hS 1 rfl rfl 5 (by decide) (hts (.fieldLink RX11 111 "Underpaint$Stuff" "lamp" "I") (by decide +kernel)) (fun _ h9 => h9) rfl (by decide +kernel) rfl rfl (Nat.le_of_ble_eq_true rfl) dX11_stuff_177 (fun H locs hP hD hS => ?_)
                  have hP : va_P (dC, dI) vwCl [(pal, .inr (5, [.int 0, .ref en.2.2.1, .int 0])), (q_52, .inr (15, [.int 0, .int c9, .int tone, .int cover, .int weight, .int lamp, .int 0, .int 0, .int 0, .int 0, .int 0]))] H := hP
                  have hD : va_D A [(pal, .inr (5, [.int 0, .ref en.2.2.1, .int 0])), (q_52, .inr (15, [.int 0, .int c9, .int tone, .int cover, .int weight, .int lamp, .int 0, .int 0, .int 0, .int 0, .int 0]))] := hD
                  have hR := en_R hR0 hN0 hS
                  refine lv_aload hx hb dX11_stuff_180 (lv_at hl 0 rfl) ?_
                  refine lv_iload hx hb dX11_stuff_182 (lv_at hl 7 rfl) ?_
                  refine va_put (D := (dC, dI)) (ci := 15) (v := .int hold) (ty := .int) (C := RX9) (T := TX9) (N := 11) hx hb hts (by decide +kernel) tyX9 tyX9_ok nmX9 hown hK hP hD hS 1 rfl rfl 6 (by decide) (hts (.fieldLink RX11 114 "Underpaint$Stuff" "hold" "I") (by decide +kernel)) (fun _ h9 => h9) rfl (by decide +kernel) rfl rfl (Nat.le_of_ble_eq_true rfl) dX11_stuff_184 (fun H locs hP hD hS => ?_)
                  have hP : va_P (dC, dI) vwCl [(pal, .inr (5, [.int 0, .ref en.2.2.1, .int 0])), (q_52, .inr (15, [.int 0, .int c9, .int tone, .int cover, .int weight, .int lamp, .int hold, .int 0, .int 0, .int 0, .int 0]))] H := hP
                  have hD : va_D A [(pal, .inr (5, [.int 0, .ref en.2.2.1, .int 0])), (q_52, .inr (15, [.int 0, .int c9, .int tone, .int cover, .int weight, .int lamp, .int hold, .int 0, .int 0, .int 0, .int 0]))] := hD
                  have hR := en_R hR0 hN0 hS
                  refine lv_aload hx hb dX11_stuff_187 (lv_at hl 0 rfl) ?_
                  refine lv_iload hx hb dX11_stuff_189 (lv_at hl 8 rfl) ?_
                  refine va_put (D := (dC, dI)) (ci := 15) (v := .int fading) (ty := .int) (C := RX9) (T := TX9) (N := 11) hx hb hts (by decide +kernel) tyX9 tyX9_ok nmX9 hown hK hP hD hS 1 rfl rfl 7 (by decide) (hts (.fieldLink RX11 117 "Underpaint$Stuff" "fading" "I") (by decide +kernel)) (fun _ h9 => h9) rfl (by decide +kernel) rfl rfl (Nat.le_of_ble_eq_true rfl) dX11_stuff_191 (fun H locs hP hD hS => ?_)
                  have hP : va_P (dC, dI) vwCl [(pal, .inr (5, [.int 0, .ref en.2.2.1, .int 0])), (q_52, .inr (15, [.int 0, .int c9, .int tone, .int cover, .int weight, .int lamp, .int hold, .int fading, .int 0, .int 0, .int 0]))] H := hP
                  have hD : va_D A [(pal, .inr (5, [.int 0, .ref en.2.2.1, .int 0])), (q_52, .inr (15, [.int 0, .int c9, .int tone, .int cover, .int weight, .int lamp, .int hold, .int fading, .int 0, .int 0, .int 0]))] := hD
                  have hR := en_R hR0 hN0 hS
                  refine lv_aload hx hb dX11_stuff_194 (lv_at hl 0 rfl) ?_
                  refine lv_iload hx hb dX11_stuff_196 (lv_at hl 9 rfl) ?_
                  refine va_put (D := (dC, dI)) (ci := 15) (v := .int yr) (ty := .int) (C := RX9) (T := TX9) (N := 11) hx hb hts (by decide +kernel) tyX9 tyX9_ok nmX9 hown hK hP hD hS 1 rfl rfl 8 (by decide) (hts (.fieldLink RX11 120 "Underpaint$Stuff" "madeFrom" "I") (by decide +kernel)) (fun _ h9 => h9) rfl (by decide +kernel) rfl rfl (Nat.le_of_ble_eq_true rfl) dX11_stuff_198 (fun H locs hP hD hS => ?_)
                  have hP : va_P (dC, dI) vwCl [(pal, .inr (5, [.int 0, .ref en.2.2.1, .int 0])), (q_52, .inr (15, [.int 0, .int c9, .int tone, .int cover, .int weight, .int lamp, .int hold, .int fading, .int yr, .int 0, .int 0]))] H := hP
                  have hD : va_D A [(pal, .inr (5, [.int 0, .ref en.2.2.1, .int 0])), (q_52, .inr (15, [.int 0, .int c9, .int tone, .int cover, .int weight, .int lamp, .int hold, .int fading, .int yr, .int 0, .int 0]))] := hD
                  have hR := en_R hR0 hN0 hS
                  refine lv_aload hx hb dX11_stuff_201 (lv_at hl 0 rfl) ?_
                  refine lv_iload hx hb dX11_stuff_203 (lv_at hl 10 rfl) ?_
                  refine va_put (D := (dC, dI)) (ci := 15) (v := .int z9) (ty := .boolean) (C := RX9) (T := TX9) (N := 11) hx hb hts (by decide +kernel) tyX9 tyX9_ok nmX9 hown hK hP hD hS 1 rfl rfl 9 (by decide) (hts (.fieldLink RX11 123 "Underpaint$Stuff" "isThrough" "Z") (by decide +kernel)) (fun _ h9 => h9) rfl (by decide +kernel) hnar_z9 hfit_z9 (Nat.le_of_ble_eq_true rfl) dX11_stuff_205 (fun H locs hP hD hS => ?_)
                  have hP : va_P (dC, dI) vwCl [(pal, .inr (5, [.int 0, .ref en.2.2.1, .int 0])), (q_52, .inr (15, [.int 0, .int c9, .int tone, .int cover, .int weight, .int lamp, .int hold, .int fading, .int yr, .int z9, .int 0]))] H := hP
                  have hD : va_D A [(pal, .inr (5, [.int 0, .ref en.2.2.1, .int 0])), (q_52, .inr (15, [.int 0, .int c9, .int tone, .int cover, .int weight, .int lamp, .int hold, .int fading, .int yr, .int z9, .int 0]))] := hD
                  have hR := en_R hR0 hN0 hS
                  refine lv_aload_n hx hb dX11_stuff_208 rfl (lv_at hl 1 rfl) ?_
                  refine va_get (D := (dC, dI)) (ci := 17) (v := .ref pal) (C := RX11) (T := TX11) (N := 14) hx hb hts (by decide +kernel) hown hK hR 0 rfl rfl 0 (by decide) (hts (.fieldLink RX11 10 "Underpaint" "palette" "Ljava/util/ArrayList;") (by decide +kernel)) (fun _ h9 => h9) rfl dX11_stuff_209 ?_
                  refine lv_aload hx hb dX11_stuff_212 (lv_at hl 0 rfl) ?_
                  have hS9 := hS
                  have hPc := (hP.app hR).sub (ws' := [(pal, .inr (5, [.int 0, .ref en.2.2.1, .int 0]))] ++ [(q_52, .inr (15, ([.int 0, .int c9, .int tone, .int cover, .int weight, .int lamp, .int hold, .int fading, .int yr, .int z9, .int 0])))]) [0, 1] rfl
                  have hDc := (en_DD hD hDr hN0 hAb).sub (ws' := [(pal, .inr (5, [.int 0, .ref en.2.2.1, .int 0]))] ++ [(q_52, .inr (15, ([.int 0, .int c9, .int tone, .int cover, .int weight, .int lamp, .int hold, .int fading, .int yr, .int z9, .int 0])))]) [0, 1] (by decide) rfl
                  have hKc := hK.sub (tys' := []) [] rfl
                  have hFc := va_free (wc := [(pal, .inr (5, [.int 0, .ref en.2.2.1, .int 0]))]) hD hS hA [0] rfl
                  refine va_calli (va_runV (As := [.ref q_52]) (rest := []) ⟨hx, hb, hml, hown, hts⟩ (c_addo l dC dI b0 en H.size pal q_52 15 ([.int 0, .int c9, .int tone, .int cover, .int weight, .int lamp, .int hold, .int fading, .int yr, .int z9, .int 0]) (RX9, TX9, 11) rfl (by decide +kernel)) (cwV 1 hts go_c_X11_stuff_6 rfl rfl rfl (by decide +kernel) ⟨Nat.le_of_ble_eq_true rfl, Nat.le_of_ble_eq_true rfl⟩) ⟨cP.blind, va_recv hK hP (ci := 5) (q0 := 0) rfl rfl, cP.use (en_z hb0 hS) (hE.on hAb hS) hPc hKc hDc trivial⟩ rfl rfl hl.1 rfl (lv_room (Nat.le_of_ble_eq_true rfl)) dX11_stuff_214 ⟨Nat.le_of_ble_eq_true rfl, Nat.le_of_ble_eq_true rfl⟩) hS (fun q _ h => hFc q h) hFc (fun r_59 ⟨ar_56, cO_57, fO_58⟩ t H1 locs ht hvm hw hB hz1 hk1 hS => ?_)
                  obtain ⟨hP1, hK1, hD1, hF1⟩ := hB
                  rw [ht] at hP1
                  try rw [ht] at hF1
                  have hK1 := va_K.moved hvm.symm hK1
                  try dsimp only at hw
                  obtain ⟨hP, hD⟩ := va_join (wr := [(q_52, .inr (15, [.int 0, .int c9, .int tone, .int cover, .int weight, .int lamp, .int hold, .int fading, .int yr, .int z9, .int 0]))]) (w1 := [(pal, .inr (5, [.int 1, .ref ar_56, .int 1])), (ar_56, .inl (cO_57, 10, .inr (.inr (.inr (.inr fO_58)))))]) hP hD [0] [1] rfl rfl (by decide) (by decide) hk1 hFc hP1 hD1
                  have hK := hK.app hK1
                  have hgz_ar_56 : s.heap.size ≤ ar_56 := Nat.le_trans hS9.1 (vGeN hD1 1 rfl (by simp only [List.map_cons, List.map_nil, List.mem_cons, List.not_mem_nil, or_false, not_or, not_false_eq_true]; exact vAp hD1 1 0 rfl rfl (by decide)))
                  generalize H1 = H at hP hS ⊢
                  have hP : va_P (dC, dI) vwCl [(q_52, .inr (15, [.int 0, .int c9, .int tone, .int cover, .int weight, .int lamp, .int hold, .int fading, .int yr, .int z9, .int 0])), (pal, .inr (5, [.int 1, .ref ar_56, .int 1])), (ar_56, .inl (cO_57, 10, .inr (.inr (.inr (.inr fO_58)))))] H := hP
                  have hD : va_D A [(q_52, .inr (15, [.int 0, .int c9, .int tone, .int cover, .int weight, .int lamp, .int hold, .int fading, .int yr, .int z9, .int 0])), (pal, .inr (5, [.int 1, .ref ar_56, .int 1])), (ar_56, .inl (cO_57, 10, .inr (.inr (.inr (.inr fO_58)))))] := hD
                  have hR := en_R hR0 hN0 hS
                  refine W.widen (k := 7) (n := 51) (Nat.le_of_ble_eq_true rfl) (Nat.le_of_ble_eq_true rfl) ?_
                  subst r_59
                  refine lv_pop hx hb dX11_stuff_217 rfl ?_
                  refine lv_aload hx hb dX11_stuff_218 (lv_at hl 0 rfl) ?_
                  refine va_get (D := (dC, dI)) (ci := 15) (v := .int 0) (C := RX9) (T := TX9) (N := 11) hx hb hts (by decide +kernel) hown hK hP 0 rfl rfl 0 (by decide) (hts (.fieldLink RX11 131 "Underpaint$Stuff" "number" "I") (by decide +kernel)) (fun _ h9 => h9) rfl dX11_stuff_220 ?_
                  refine W.widen (k := 7) (n := 51) (Nat.le_of_ble_eq_true rfl) (Nat.le_of_ble_eq_true rfl) ?_
                  refine vx_ret ?_
                  exact W.iret (v := 0) hx hb hr (fun t ht hW => ⟨⟨0, (), rfl, (z_c_X11_stuff_398 c9 tone cover weight lamp hold fading yr z9 hnar_c9 hfit_c9 hnar_z9 hfit_z9 (Int32.not_lt.mp c_2) h_6 (b_yes h_8 c_9) (b_yes h_13 c_14) (b_yes h_18 c_19) h_23 (b_yes h_25 c_26) (b_yes h_30 c_31) h_35 (b_yes h_37 c_38) (b_yes h_42 c_43) h_47 h_51), trivial⟩, hS.F ht⟩) hS.2.2 dX11_stuff_223
