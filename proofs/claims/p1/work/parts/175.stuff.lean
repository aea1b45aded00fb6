theorem dX18_stuff_0 : decode cX18_stuff 0 = .ok (.aload_n 0, 1) := by decide +kernel
theorem dX18_stuff_1 : decode cX18_stuff 1 = .ok (.iconst 0, 1) := by decide +kernel
theorem dX18_stuff_2 : decode cX18_stuff 2 = .ok (.putfield 67, 3) := by decide +kernel
theorem dX18_stuff_5 : decode cX18_stuff 5 = .ok (.ldc 80, 2) := by decide +kernel
theorem dX18_stuff_7 : decode cX18_stuff 7 = .ok (.iload_n 1, 1) := by decide +kernel
set_option maxRecDepth 20000 in
theorem ggX18_stuff_J0_indexOf_0f7a4 : GoodIn wsX18_stuff wsJ0_indexOf_0f7a4 := goodIn_r _ [10, 11, 12, 13, 9, 14, 15, 16, 17, 18, 19, 20, 21, 22, 23, 24, 25, 26, 27, 28, 29, 30, 31, 32, 33, 34, 35, 36, 37, 38, 39, 40, 41, 42, 43, 44, 45, 46, 47, 48, 49, 50, 51, 52, 53, 54, 55, 56, 57, 58, 59, 60, 61, 62, 63, 64, 65, 66, 67, 68, 69, 70, 71, 72, 73, 74, 75, 76, 77, 78, 79, 80, 81, 82, 83, 84, 85, 86, 87, 88, 89, 90, 91, 92, 93, 94, 201, 202, 203, 204] (by decide +kernel) (by decide +kernel)
set_option maxRecDepth 20000 in
theorem gX18_stuff_J0_indexOf_0f7a4 : GoodIn wsX18_stuff (wsV RX18 82 RJ0 yJ0_indexOf_0f7a4 wsJ0_indexOf_0f7a4) := goodIn_app (goodIn_of _ (by decide +kernel)) ggX18_stuff_J0_indexOf_0f7a4
theorem dX18_stuff_8 : decode cX18_stuff 8 = .ok (.invokevirtual 82, 3) := by decide +kernel
theorem dX18_stuff_11 : decode cX18_stuff 11 = .ok (.ifCond .lt 49, 3) := by decide +kernel
theorem dX18_stuff_60 : decode cX18_stuff 60 = .ok (.iconst 0, 1) := by decide +kernel
theorem dX18_stuff_61 : decode cX18_stuff 61 = .ok (.istore 10, 2) := by decide +kernel
theorem dX18_stuff_63 : decode cX18_stuff 63 = .ok (.iload 10, 2) := by decide +kernel
theorem dX18_stuff_65 : decode cX18_stuff 65 = .ok (.ifCond .eq 37, 3) := by decide +kernel
theorem dX18_stuff_102 : decode cX18_stuff 102 = .ok (.aload_n 0, 1) := by decide +kernel
theorem dX18_stuff_103 : decode cX18_stuff 103 = .ok (.iconst 1, 1) := by decide +kernel
set_option maxRecDepth 20000 in
theorem ggX18_stuff_X18_fails : GoodIn wsX18_stuff wsX18_fails := goodIn_r _ [102, 1, 174, 175, 176, 177, 178, 179, 180, 181, 182, 183, 184, 185, 186, 187, 188, 189, 190] (by decide +kernel) (by decide +kernel)
set_option maxRecDepth 20000 in
theorem gX18_stuff_X18_fails : GoodIn wsX18_stuff (wsV RX18 88 RX18 yX18_fails wsX18_fails) := goodIn_app (goodIn_of _ (by decide +kernel)) ggX18_stuff_X18_fails
theorem dX18_stuff_104 : decode cX18_stuff 104 = .ok (.invokevirtual 88, 3) := by decide +kernel
theorem dX18_stuff_107 : decode cX18_stuff 107 = .ok (.ireturn, 1) := by decide +kernel
theorem dX18_stuff_14 : decode cX18_stuff 14 = .ok (.iload_n 2, 1) := by decide +kernel
theorem dX18_stuff_15 : decode cX18_stuff 15 = .ok (.iconst 0, 1) := by decide +kernel
theorem dX18_stuff_16 : decode cX18_stuff 16 = .ok (.bipush 99, 2) := by decide +kernel
set_option maxRecDepth 20000 in
theorem ggX18_stuff_X18_in : GoodIn wsX18_stuff wsX18_in := goodIn_r _ [98] (by decide +kernel) (by decide +kernel)
set_option maxRecDepth 20000 in
theorem gX18_stuff_X18_in : GoodIn wsX18_stuff (va_wsS RX18 70 yX18_in wsX18_in) := goodIn_app (goodIn_of _ (by decide +kernel)) ggX18_stuff_X18_in
theorem dX18_stuff_18 : decode cX18_stuff 18 = .ok (.invokestatic 70, 3) := by decide +kernel
theorem dX18_stuff_21 : decode cX18_stuff 21 = .ok (.ifCond .eq 39, 3) := by decide +kernel
theorem dX18_stuff_24 : decode cX18_stuff 24 = .ok (.iload_n 3, 1) := by decide +kernel
theorem dX18_stuff_25 : decode cX18_stuff 25 = .ok (.iconst 1, 1) := by decide +kernel
theorem dX18_stuff_26 : decode cX18_stuff 26 = .ok (.bipush 100, 2) := by decide +kernel
theorem dX18_stuff_28 : decode cX18_stuff 28 = .ok (.invokestatic 70, 3) := by decide +kernel
theorem dX18_stuff_31 : decode cX18_stuff 31 = .ok (.ifCond .eq 29, 3) := by decide +kernel
theorem dX18_stuff_34 : decode cX18_stuff 34 = .ok (.iload 4, 2) := by decide +kernel
theorem dX18_stuff_36 : decode cX18_stuff 36 = .ok (.iconst 0, 1) := by decide +kernel
theorem dX18_stuff_37 : decode cX18_stuff 37 = .ok (.bipush 9, 2) := by decide +kernel
theorem dX18_stuff_39 : decode cX18_stuff 39 = .ok (.invokestatic 70, 3) := by decide +kernel
theorem dX18_stuff_42 : decode cX18_stuff 42 = .ok (.ifCond .eq 18, 3) := by decide +kernel
theorem dX18_stuff_45 : decode cX18_stuff 45 = .ok (.iload 5, 2) := by decide +kernel
theorem dX18_stuff_47 : decode cX18_stuff 47 = .ok (.iconst 0, 1) := by decide +kernel
theorem dX18_stuff_48 : decode cX18_stuff 48 = .ok (.bipush 9, 2) := by decide +kernel
theorem dX18_stuff_50 : decode cX18_stuff 50 = .ok (.invokestatic 70, 3) := by decide +kernel
theorem dX18_stuff_53 : decode cX18_stuff 53 = .ok (.ifCond .eq 7, 3) := by decide +kernel
theorem dX18_stuff_56 : decode cX18_stuff 56 = .ok (.iconst 1, 1) := by decide +kernel
theorem dX18_stuff_57 : decode cX18_stuff 57 = .ok (.goto 4, 3) := by decide +kernel
theorem dX18_stuff_68 : decode cX18_stuff 68 = .ok (.iload 6, 2) := by decide +kernel
theorem dX18_stuff_70 : decode cX18_stuff 70 = .ok (.iconst 0, 1) := by decide +kernel
theorem dX18_stuff_71 : decode cX18_stuff 71 = .ok (.bipush 9, 2) := by decide +kernel
theorem dX18_stuff_73 : decode cX18_stuff 73 = .ok (.invokestatic 70, 3) := by decide +kernel
theorem dX18_stuff_76 : decode cX18_stuff 76 = .ok (.ifCond .eq 26, 3) := by decide +kernel
theorem dX18_stuff_79 : decode cX18_stuff 79 = .ok (.iload 7, 2) := by decide +kernel
theorem dX18_stuff_81 : decode cX18_stuff 81 = .ok (.iconst 0, 1) := by decide +kernel
theorem dX18_stuff_82 : decode cX18_stuff 82 = .ok (.bipush 9, 2) := by decide +kernel
theorem dX18_stuff_84 : decode cX18_stuff 84 = .ok (.invokestatic 70, 3) := by decide +kernel
theorem dX18_stuff_87 : decode cX18_stuff 87 = .ok (.ifCond .eq 15, 3) := by decide +kernel
theorem dX18_stuff_90 : decode cX18_stuff 90 = .ok (.iload 8, 2) := by decide +kernel
theorem dX18_stuff_92 : decode cX18_stuff 92 = .ok (.iconst 0, 1) := by decide +kernel
theorem dX18_stuff_93 : decode cX18_stuff 93 = .ok (.sipush 9999, 3) := by decide +kernel
theorem dX18_stuff_96 : decode cX18_stuff 96 = .ok (.invokestatic 70, 3) := by decide +kernel
theorem dX18_stuff_99 : decode cX18_stuff 99 = .ok (.ifCond .ne 9, 3) := by decide +kernel
theorem dX18_stuff_108 : decode cX18_stuff 108 = .ok (.aload_n 0, 1) := by decide +kernel
theorem dX18_stuff_109 : decode cX18_stuff 109 = .ok (.getfield 10, 3) := by decide +kernel
set_option maxRecDepth 20000 in
theorem ggX18_stuff_Jx4a65c_size_8abf5 : GoodIn wsX18_stuff wsJx4a65c_size_8abf5 := goodIn_r _ [107, 108, 205, 206, 207] (by decide +kernel) (by decide +kernel)
set_option maxRecDepth 20000 in
theorem gX18_stuff_Jx4a65c_size_8abf5_f74Jx4a65c : GoodIn wsX18_stuff (va_wsF RX18 74 RJx4a65c ⟨"java/util/List", "size", "()I"⟩ yJx4a65c_size_8abf5 wsJx4a65c_size_8abf5) := goodIn_app (goodIn_of _ (by decide +kernel)) ggX18_stuff_Jx4a65c_size_8abf5
theorem dX18_stuff_112 : decode cX18_stuff 112 = .ok (.invokeinterface 74 1, 5) := by decide +kernel
theorem dX18_stuff_117 : decode cX18_stuff 117 = .ok (.bipush 12, 2) := by decide +kernel
theorem dX18_stuff_119 : decode cX18_stuff 119 = .ok (.if_icmp .ne 9, 3) := by decide +kernel
theorem dX18_stuff_128 : decode cX18_stuff 128 = .ok (.aload_n 0, 1) := by decide +kernel
theorem dX18_stuff_129 : decode cX18_stuff 129 = .ok (.getfield 10, 3) := by decide +kernel
theorem dX18_stuff_132 : decode cX18_stuff 132 = .ok (.new 91, 3) := by decide +kernel
theorem dX18_stuff_135 : decode cX18_stuff 135 = .ok (.dup, 1) := by decide +kernel
theorem dX18_stuff_136 : decode cX18_stuff 136 = .ok (.aload_n 0, 1) := by decide +kernel
theorem dX18_stuff_137 : decode cX18_stuff 137 = .ok (.getfield 10, 3) := by decide +kernel
theorem dX18_stuff_140 : decode cX18_stuff 140 = .ok (.invokeinterface 74 1, 5) := by decide +kernel
theorem dX18_stuff_145 : decode cX18_stuff 145 = .ok (.iload_n 1, 1) := by decide +kernel
theorem dX18_stuff_146 : decode cX18_stuff 146 = .ok (.iload_n 2, 1) := by decide +kernel
theorem dX18_stuff_147 : decode cX18_stuff 147 = .ok (.iload_n 3, 1) := by decide +kernel
theorem dX18_stuff_148 : decode cX18_stuff 148 = .ok (.iload 4, 2) := by decide +kernel
theorem dX18_stuff_150 : decode cX18_stuff 150 = .ok (.iload 5, 2) := by decide +kernel
theorem dX18_stuff_152 : decode cX18_stuff 152 = .ok (.iload 6, 2) := by decide +kernel
theorem dX18_stuff_154 : decode cX18_stuff 154 = .ok (.iload 7, 2) := by decide +kernel
theorem dX18_stuff_156 : decode cX18_stuff 156 = .ok (.iload 8, 2) := by decide +kernel
theorem dX18_stuff_158 : decode cX18_stuff 158 = .ok (.iload 9, 2) := by decide +kernel
set_option maxRecDepth 20000 in
theorem ggX18_stuff_X17_init : GoodIn wsX18_stuff wsX17_init := goodIn_r _ [111, 112, 113, 114, 115, 116, 117, 118, 119, 120, 121, 122, 123, 124, 191, 192, 193, 194, 195, 196, 197, 198, 199, 200] (by decide +kernel) (by decide +kernel)
set_option maxRecDepth 20000 in
theorem gX18_stuff_X17_init : GoodIn wsX18_stuff (wsX17_init) := ggX18_stuff_X17_init
theorem dX18_stuff_160 : decode cX18_stuff 160 = .ok (.invokespecial 93, 3) := by decide +kernel
set_option maxRecDepth 20000 in
theorem ggX18_stuff_Jx4a65c_add_9ea2d : GoodIn wsX18_stuff wsJx4a65c_add_9ea2d := goodIn_r _ [128, 129, 130, 131, 108, 132, 133, 134, 106, 135, 136, 137, 138, 139, 140, 141, 142, 143, 144, 145, 35, 36, 37, 146, 147, 148, 149, 150, 151, 152, 153, 154, 155, 156, 157, 158, 159, 160, 161, 162, 163, 164, 165, 166, 167, 168, 169, 39, 40, 170, 171, 172, 173, 205, 206, 207] (by decide +kernel) (by decide +kernel)
set_option maxRecDepth 20000 in
theorem gX18_stuff_Jx4a65c_add_9ea2d_f96Jx4a65c : GoodIn wsX18_stuff (va_wsF RX18 96 RJx4a65c ⟨"java/util/List", "add", "(Ljava/lang/Object;)Z"⟩ yJx4a65c_add_9ea2d wsJx4a65c_add_9ea2d) := goodIn_app (goodIn_of _ (by decide +kernel)) ggX18_stuff_Jx4a65c_add_9ea2d
theorem dX18_stuff_163 : decode cX18_stuff 163 = .ok (.invokeinterface 96 2, 5) := by decide +kernel
theorem dX18_stuff_168 : decode cX18_stuff 168 = .ok (.pop, 1) := by decide +kernel
theorem dX18_stuff_169 : decode cX18_stuff 169 = .ok (.aload_n 0, 1) := by decide +kernel
theorem dX18_stuff_170 : decode cX18_stuff 170 = .ok (.getfield 10, 3) := by decide +kernel
theorem dX18_stuff_173 : decode cX18_stuff 173 = .ok (.invokeinterface 74 1, 5) := by decide +kernel
theorem dX18_stuff_178 : decode cX18_stuff 178 = .ok (.iconst 1, 1) := by decide +kernel
theorem dX18_stuff_179 : decode cX18_stuff 179 = .ok (.isub, 1) := by decide +kernel
theorem dX18_stuff_180 : decode cX18_stuff 180 = .ok (.ireturn, 1) := by decide +kernel
theorem z_c_X18_stuff_146   : 0 < 6 := by  simp_all
theorem z_c_X18_stuff_147 (c9 : Int32) (tone : Int32) (cover : Int32) (weight : Int32) (lamp : Int32) (hold : Int32) (fading : Int32) (yr : Int32) (a_0 : ¬ (0 ≤ ixL 0 c9)) : ((1 : Int32) = 0 ∧ (0 : Int32) = 0 ∧ 0 ≤ ixL 0 c9 ∧ (0 ≤ tone ∧ tone ≤ 99) ∧ (1 ≤ cover ∧ cover ≤ 100) ∧ (0 ≤ weight ∧ weight ≤ 9) ∧ (0 ≤ lamp ∧ lamp ≤ 9) ∧ (0 ≤ hold ∧ hold ≤ 9) ∧ (0 ≤ fading ∧ fading ≤ 9) ∧ (0 ≤ yr ∧ yr ≤ 9999)) ∨ ((1 : Int32) = 1 ∧ ¬ (0 ≤ ixL 0 c9 ∧ (0 ≤ tone ∧ tone ≤ 99) ∧ (1 ≤ cover ∧ cover ≤ 100) ∧ (0 ≤ weight ∧ weight ≤ 9) ∧ (0 ≤ lamp ∧ lamp ≤ 9) ∧ (0 ≤ hold ∧ hold ≤ 9) ∧ (0 ≤ fading ∧ fading ≤ 9) ∧ (0 ≤ yr ∧ yr ≤ 9999))) := by (try generalize (0 ≤ ixL 0 c9) = P_0 at *); (try generalize (0 ≤ yr ∧ yr ≤ 9999) = P_1 at *); (try generalize (0 ≤ hold ∧ hold ≤ 9) = P_2 at *); (try generalize (0 ≤ fading ∧ fading ≤ 9) = P_3 at *); (try generalize (0 ≤ tone ∧ tone ≤ 99) = P_4 at *); (try generalize (1 ≤ cover ∧ cover ≤ 100) = P_5 at *); (try generalize (0 ≤ weight ∧ weight ≤ 9) = P_6 at *); (try generalize (0 ≤ lamp ∧ lamp ≤ 9) = P_7 at *); simp_all
theorem z_c_X18_stuff_148 (c9 : Int32) (tone : Int32) (cover : Int32) (weight : Int32) (lamp : Int32) (hold : Int32) (fading : Int32) (yr : Int32) (a_0 : 0 ≤ ixL 0 c9) (a_1 : ¬ (0 ≤ tone ∧ tone ≤ 99)) : ((1 : Int32) = 0 ∧ (0 : Int32) = 0 ∧ 0 ≤ ixL 0 c9 ∧ (0 ≤ tone ∧ tone ≤ 99) ∧ (1 ≤ cover ∧ cover ≤ 100) ∧ (0 ≤ weight ∧ weight ≤ 9) ∧ (0 ≤ lamp ∧ lamp ≤ 9) ∧ (0 ≤ hold ∧ hold ≤ 9) ∧ (0 ≤ fading ∧ fading ≤ 9) ∧ (0 ≤ yr ∧ yr ≤ 9999)) ∨ ((1 : Int32) = 1 ∧ ¬ (0 ≤ ixL 0 c9 ∧ (0 ≤ tone ∧ tone ≤ 99) ∧ (1 ≤ cover ∧ cover ≤ 100) ∧ (0 ≤ weight ∧ weight ≤ 9) ∧ (0 ≤ lamp ∧ lamp ≤ 9) ∧ (0 ≤ hold ∧ hold ≤ 9) ∧ (0 ≤ fading ∧ fading ≤ 9) ∧ (0 ≤ yr ∧ yr ≤ 9999))) := by (try generalize (0 ≤ ixL 0 c9) = P_0 at *); (try generalize (0 ≤ tone ∧ tone ≤ 99) = P_1 at *); (try generalize (0 ≤ yr ∧ yr ≤ 9999) = P_2 at *); (try generalize (0 ≤ hold ∧ hold ≤ 9) = P_3 at *); (try generalize (0 ≤ fading ∧ fading ≤ 9) = P_4 at *); (try generalize (1 ≤ cover ∧ cover ≤ 100) = P_5 at *); (try generalize (0 ≤ weight ∧ weight ≤ 9) = P_6 at *); (try generalize (0 ≤ lamp ∧ lamp ≤ 9) = P_7 at *); simp_all
theorem z_c_X18_stuff_149 (c9 : Int32) (tone : Int32) (cover : Int32) (weight : Int32) (lamp : Int32) (hold : Int32) (fading : Int32) (yr : Int32) (a_0 : 0 ≤ ixL 0 c9) (a_1 : 0 ≤ tone ∧ tone ≤ 99) (a_2 : ¬ (1 ≤ cover ∧ cover ≤ 100)) : ((1 : Int32) = 0 ∧ (0 : Int32) = 0 ∧ 0 ≤ ixL 0 c9 ∧ (0 ≤ tone ∧ tone ≤ 99) ∧ (1 ≤ cover ∧ cover ≤ 100) ∧ (0 ≤ weight ∧ weight ≤ 9) ∧ (0 ≤ lamp ∧ lamp ≤ 9) ∧ (0 ≤ hold ∧ hold ≤ 9) ∧ (0 ≤ fading ∧ fading ≤ 9) ∧ (0 ≤ yr ∧ yr ≤ 9999)) ∨ ((1 : Int32) = 1 ∧ ¬ (0 ≤ ixL 0 c9 ∧ (0 ≤ tone ∧ tone ≤ 99) ∧ (1 ≤ cover ∧ cover ≤ 100) ∧ (0 ≤ weight ∧ weight ≤ 9) ∧ (0 ≤ lamp ∧ lamp ≤ 9) ∧ (0 ≤ hold ∧ hold ≤ 9) ∧ (0 ≤ fading ∧ fading ≤ 9) ∧ (0 ≤ yr ∧ yr ≤ 9999))) := by (try generalize (0 ≤ ixL 0 c9) = P_0 at *); (try generalize (0 ≤ tone ∧ tone ≤ 99) = P_1 at *); (try generalize (1 ≤ cover ∧ cover ≤ 100) = P_2 at *); (try generalize (0 ≤ yr ∧ yr ≤ 9999) = P_3 at *); (try generalize (0 ≤ hold ∧ hold ≤ 9) = P_4 at *); (try generalize (0 ≤ fading ∧ fading ≤ 9) = P_5 at *); (try generalize (0 ≤ weight ∧ weight ≤ 9) = P_6 at *); (try generalize (0 ≤ lamp ∧ lamp ≤ 9) = P_7 at *); simp_all
theorem z_c_X18_stuff_150 (c9 : Int32) (tone : Int32) (cover : Int32) (weight : Int32) (lamp : Int32) (hold : Int32) (fading : Int32) (yr : Int32) (a_0 : 0 ≤ ixL 0 c9) (a_1 : 0 ≤ tone ∧ tone ≤ 99) (a_2 : 1 ≤ cover ∧ cover ≤ 100) (a_3 : ¬ (0 ≤ weight ∧ weight ≤ 9)) : ((1 : Int32) = 0 ∧ (0 : Int32) = 0 ∧ 0 ≤ ixL 0 c9 ∧ (0 ≤ tone ∧ tone ≤ 99) ∧ (1 ≤ cover ∧ cover ≤ 100) ∧ (0 ≤ weight ∧ weight ≤ 9) ∧ (0 ≤ lamp ∧ lamp ≤ 9) ∧ (0 ≤ hold ∧ hold ≤ 9) ∧ (0 ≤ fading ∧ fading ≤ 9) ∧ (0 ≤ yr ∧ yr ≤ 9999)) ∨ ((1 : Int32) = 1 ∧ ¬ (0 ≤ ixL 0 c9 ∧ (0 ≤ tone ∧ tone ≤ 99) ∧ (1 ≤ cover ∧ cover ≤ 100) ∧ (0 ≤ weight ∧ weight ≤ 9) ∧ (0 ≤ lamp ∧ lamp ≤ 9) ∧ (0 ≤ hold ∧ hold ≤ 9) ∧ (0 ≤ fading ∧ fading ≤ 9) ∧ (0 ≤ yr ∧ yr ≤ 9999))) := by (try generalize (0 ≤ ixL 0 c9) = P_0 at *); (try generalize (0 ≤ tone ∧ tone ≤ 99) = P_1 at *); (try generalize (1 ≤ cover ∧ cover ≤ 100) = P_2 at *); (try generalize (0 ≤ weight ∧ weight ≤ 9) = P_3 at *); (try generalize (0 ≤ yr ∧ yr ≤ 9999) = P_4 at *); (try generalize (0 ≤ hold ∧ hold ≤ 9) = P_5 at *); (try generalize (0 ≤ fading ∧ fading ≤ 9) = P_6 at *); (try generalize (0 ≤ lamp ∧ lamp ≤ 9) = P_7 at *); simp_all
theorem z_c_X18_stuff_151 (c9 : Int32) (tone : Int32) (cover : Int32) (weight : Int32) (lamp : Int32) (hold : Int32) (fading : Int32) (yr : Int32) (a_0 : 0 ≤ ixL 0 c9) (a_1 : 0 ≤ tone ∧ tone ≤ 99) (a_2 : 1 ≤ cover ∧ cover ≤ 100) (a_3 : 0 ≤ weight ∧ weight ≤ 9) (a_4 : ¬ (0 ≤ lamp ∧ lamp ≤ 9)) : ((1 : Int32) = 0 ∧ (0 : Int32) = 0 ∧ 0 ≤ ixL 0 c9 ∧ (0 ≤ tone ∧ tone ≤ 99) ∧ (1 ≤ cover ∧ cover ≤ 100) ∧ (0 ≤ weight ∧ weight ≤ 9) ∧ (0 ≤ lamp ∧ lamp ≤ 9) ∧ (0 ≤ hold ∧ hold ≤ 9) ∧ (0 ≤ fading ∧ fading ≤ 9) ∧ (0 ≤ yr ∧ yr ≤ 9999)) ∨ ((1 : Int32) = 1 ∧ ¬ (0 ≤ ixL 0 c9 ∧ (0 ≤ tone ∧ tone ≤ 99) ∧ (1 ≤ cover ∧ cover ≤ 100) ∧ (0 ≤ weight ∧ weight ≤ 9) ∧ (0 ≤ lamp ∧ lamp ≤ 9) ∧ (0 ≤ hold ∧ hold ≤ 9) ∧ (0 ≤ fading ∧ fading ≤ 9) ∧ (0 ≤ yr ∧ yr ≤ 9999))) := by (try generalize (0 ≤ ixL 0 c9) = P_0 at *); (try generalize (0 ≤ tone ∧ tone ≤ 99) = P_1 at *); (try generalize (1 ≤ cover ∧ cover ≤ 100) = P_2 at *); (try generalize (0 ≤ weight ∧ weight ≤ 9) = P_3 at *); (try generalize (0 ≤ lamp ∧ lamp ≤ 9) = P_4 at *); (try generalize (0 ≤ yr ∧ yr ≤ 9999) = P_5 at *); (try generalize (0 ≤ hold ∧ hold ≤ 9) = P_6 at *); (try generalize (0 ≤ fading ∧ fading ≤ 9) = P_7 at *); simp_all
theorem z_c_X18_stuff_152 (c9 : Int32) (tone : Int32) (cover : Int32) (weight : Int32) (lamp : Int32) (hold : Int32) (fading : Int32) (yr : Int32) (a_0 : 0 ≤ ixL 0 c9) (a_1 : 0 ≤ tone ∧ tone ≤ 99) (a_2 : 1 ≤ cover ∧ cover ≤ 100) (a_3 : 0 ≤ weight ∧ weight ≤ 9) (a_4 : 0 ≤ lamp ∧ lamp ≤ 9) (a_5 : ¬ (0 ≤ hold ∧ hold ≤ 9)) : ((1 : Int32) = 0 ∧ (0 : Int32) = 0 ∧ 0 ≤ ixL 0 c9 ∧ (0 ≤ tone ∧ tone ≤ 99) ∧ (1 ≤ cover ∧ cover ≤ 100) ∧ (0 ≤ weight ∧ weight ≤ 9) ∧ (0 ≤ lamp ∧ lamp ≤ 9) ∧ (0 ≤ hold ∧ hold ≤ 9) ∧ (0 ≤ fading ∧ fading ≤ 9) ∧ (0 ≤ yr ∧ yr ≤ 9999)) ∨ ((1 : Int32) = 1 ∧ ¬ (0 ≤ ixL 0 c9 ∧ (0 ≤ tone ∧ tone ≤ 99) ∧ (1 ≤ cover ∧ cover ≤ 100) ∧ (0 ≤ weight ∧ weight ≤ 9) ∧ (0 ≤ lamp ∧ lamp ≤ 9) ∧ (0 ≤ hold ∧ hold ≤ 9) ∧ (0 ≤ fading ∧ fading ≤ 9) ∧ (0 ≤ yr ∧ yr ≤ 9999))) := by (try generalize (0 ≤ ixL 0 c9) = P_0 at *); (try generalize (0 ≤ tone ∧ tone ≤ 99) = P_1 at *); (try generalize (1 ≤ cover ∧ cover ≤ 100) = P_2 at *); (try generalize (0 ≤ weight ∧ weight ≤ 9) = P_3 at *); (try generalize (0 ≤ lamp ∧ lamp ≤ 9) = P_4 at *); (try generalize (0 ≤ hold ∧ hold ≤ 9) = P_5 at *); (try generalize (0 ≤ yr ∧ yr ≤ 9999) = P_6 at *); (try generalize (0 ≤ fading ∧ fading ≤ 9) = P_7 at *); simp_all
theorem z_c_X18_stuff_153 (c9 : Int32) (tone : Int32) (cover : Int32) (weight : Int32) (lamp : Int32) (hold : Int32) (fading : Int32) (yr : Int32) (a_0 : 0 ≤ ixL 0 c9) (a_1 : 0 ≤ tone ∧ tone ≤ 99) (a_2 : 1 ≤ cover ∧ cover ≤ 100) (a_3 : 0 ≤ weight ∧ weight ≤ 9) (a_4 : 0 ≤ lamp ∧ lamp ≤ 9) (a_5 : 0 ≤ hold ∧ hold ≤ 9) (a_6 : ¬ (0 ≤ fading ∧ fading ≤ 9)) : ((1 : Int32) = 0 ∧ (0 : Int32) = 0 ∧ 0 ≤ ixL 0 c9 ∧ (0 ≤ tone ∧ tone ≤ 99) ∧ (1 ≤ cover ∧ cover ≤ 100) ∧ (0 ≤ weight ∧ weight ≤ 9) ∧ (0 ≤ lamp ∧ lamp ≤ 9) ∧ (0 ≤ hold ∧ hold ≤ 9) ∧ (0 ≤ fading ∧ fading ≤ 9) ∧ (0 ≤ yr ∧ yr ≤ 9999)) ∨ ((1 : Int32) = 1 ∧ ¬ (0 ≤ ixL 0 c9 ∧ (0 ≤ tone ∧ tone ≤ 99) ∧ (1 ≤ cover ∧ cover ≤ 100) ∧ (0 ≤ weight ∧ weight ≤ 9) ∧ (0 ≤ lamp ∧ lamp ≤ 9) ∧ (0 ≤ hold ∧ hold ≤ 9) ∧ (0 ≤ fading ∧ fading ≤ 9) ∧ (0 ≤ yr ∧ yr ≤ 9999))) := by (try generalize (0 ≤ ixL 0 c9) = P_0 at *); (try generalize (0 ≤ tone ∧ tone ≤ 99) = P_1 at *); (try generalize (1 ≤ cover ∧ cover ≤ 100) = P_2 at *); (try generalize (0 ≤ weight ∧ weight ≤ 9) = P_3 at *); (try generalize (0 ≤ lamp ∧ lamp ≤ 9) = P_4 at *); (try generalize (0 ≤ hold ∧ hold ≤ 9) = P_5 at *); (try generalize (0 ≤ fading ∧ fading ≤ 9) = P_6 at *); (try generalize (0 ≤ yr ∧ yr ≤ 9999) = P_7 at *); simp_all
theorem z_c_X18_stuff_154 (c9 : Int32) (tone : Int32) (cover : Int32) (weight : Int32) (lamp : Int32) (hold : Int32) (fading : Int32) (yr : Int32) (a_0 : 0 ≤ ixL 0 c9) (a_1 : 0 ≤ tone ∧ tone ≤ 99) (a_2 : 1 ≤ cover ∧ cover ≤ 100) (a_3 : 0 ≤ weight ∧ weight ≤ 9) (a_4 : 0 ≤ lamp ∧ lamp ≤ 9) (a_5 : 0 ≤ hold ∧ hold ≤ 9) (a_6 : 0 ≤ fading ∧ fading ≤ 9) (a_7 : 0 ≤ yr ∧ yr ≤ 9999) : ((0 : Int32) = 0 ∧ (0 : Int32) = 0 ∧ 0 ≤ ixL 0 c9 ∧ (0 ≤ tone ∧ tone ≤ 99) ∧ (1 ≤ cover ∧ cover ≤ 100) ∧ (0 ≤ weight ∧ weight ≤ 9) ∧ (0 ≤ lamp ∧ lamp ≤ 9) ∧ (0 ≤ hold ∧ hold ≤ 9) ∧ (0 ≤ fading ∧ fading ≤ 9) ∧ (0 ≤ yr ∧ yr ≤ 9999)) ∨ ((0 : Int32) = 1 ∧ ¬ (0 ≤ ixL 0 c9 ∧ (0 ≤ tone ∧ tone ≤ 99) ∧ (1 ≤ cover ∧ cover ≤ 100) ∧ (0 ≤ weight ∧ weight ≤ 9) ∧ (0 ≤ lamp ∧ lamp ≤ 9) ∧ (0 ≤ hold ∧ hold ≤ 9) ∧ (0 ≤ fading ∧ fading ≤ 9) ∧ (0 ≤ yr ∧ yr ≤ 9999))) := by (try generalize (0 ≤ ixL 0 c9) = P_0 at *); (try generalize (0 ≤ tone ∧ tone ≤ 99) = P_1 at *); (try generalize (1 ≤ cover ∧ cover ≤ 100) = P_2 at *); (try generalize (0 ≤ weight ∧ weight ≤ 9) = P_3 at *); (try generalize (0 ≤ lamp ∧ lamp ≤ 9) = P_4 at *); (try generalize (0 ≤ hold ∧ hold ≤ 9) = P_5 at *); (try generalize (0 ≤ fading ∧ fading ≤ 9) = P_6 at *); (try generalize (0 ≤ yr ∧ yr ≤ 9999) = P_7 at *); simp_all
theorem z_c_X18_stuff_155 (c9 : Int32) (tone : Int32) (cover : Int32) (weight : Int32) (lamp : Int32) (hold : Int32) (fading : Int32) (yr : Int32) (a_0 : 0 ≤ ixL 0 c9) (a_1 : 0 ≤ tone ∧ tone ≤ 99) (a_2 : 1 ≤ cover ∧ cover ≤ 100) (a_3 : 0 ≤ weight ∧ weight ≤ 9) (a_4 : 0 ≤ lamp ∧ lamp ≤ 9) (a_5 : 0 ≤ hold ∧ hold ≤ 9) (a_6 : 0 ≤ fading ∧ fading ≤ 9) (a_7 : ¬ (0 ≤ yr ∧ yr ≤ 9999)) : ((1 : Int32) = 0 ∧ (0 : Int32) = 0 ∧ 0 ≤ ixL 0 c9 ∧ (0 ≤ tone ∧ tone ≤ 99) ∧ (1 ≤ cover ∧ cover ≤ 100) ∧ (0 ≤ weight ∧ weight ≤ 9) ∧ (0 ≤ lamp ∧ lamp ≤ 9) ∧ (0 ≤ hold ∧ hold ≤ 9) ∧ (0 ≤ fading ∧ fading ≤ 9) ∧ (0 ≤ yr ∧ yr ≤ 9999)) ∨ ((1 : Int32) = 1 ∧ ¬ (0 ≤ ixL 0 c9 ∧ (0 ≤ tone ∧ tone ≤ 99) ∧ (1 ≤ cover ∧ cover ≤ 100) ∧ (0 ≤ weight ∧ weight ≤ 9) ∧ (0 ≤ lamp ∧ lamp ≤ 9) ∧ (0 ≤ hold ∧ hold ≤ 9) ∧ (0 ≤ fading ∧ fading ≤ 9) ∧ (0 ≤ yr ∧ yr ≤ 9999))) := by (try generalize (0 ≤ ixL 0 c9) = P_0 at *); (try generalize (0 ≤ tone ∧ tone ≤ 99) = P_1 at *); (try generalize (1 ≤ cover ∧ cover ≤ 100) = P_2 at *); (try generalize (0 ≤ weight ∧ weight ≤ 9) = P_3 at *); (try generalize (0 ≤ lamp ∧ lamp ≤ 9) = P_4 at *); (try generalize (0 ≤ hold ∧ hold ≤ 9) = P_5 at *); (try generalize (0 ≤ fading ∧ fading ≤ 9) = P_6 at *); (try generalize (0 ≤ yr ∧ yr ≤ 9999) = P_7 at *); simp_all
set_option maxHeartbeats 4000000 in
set_option maxRecDepth 100000 in
theorem c_X18_stuff (l : Launch) (dC : Nat → ClassId) (dI : Nat → Nat → Nat) (b0 : Nat) (en : EnT) (sz : Nat) (mm stu cla pic act nts isn boa mas pai sol bal leg : Nat) (c9 tone cover weight lamp hold fading yr z9 : Int32) (hnar_c9 : narrow .char (.int c9) = .int c9) (hfit_c9 : fits .char (.int c9) = true) (hnar_z9 : narrow .boolean (.int z9) = .int z9) (hfit_z9 : fits .boolean (.int z9) = true) : Met l yX18_stuff wsX18_stuff ({ frames := 5, cells := 2, slots := 20, locals := 131 } : Room) (cP b0 en (dC, dI) [] [(mm, .inr (24, [.int 0, .ref stu, .ref cla, .ref pic, .ref act, .int 5, .int 50, .ref nts, .ref isn, .int 1600, .ref boa, .ref mas, .ref pai, .ref sol, .int 0, .ref bal, .ref leg])), (stu, .inr (5, [.int 0, .ref en.2.2.1, .int 0]))] [] sz (fun _ => True) [.ref mm, .int c9, .int tone, .int cover, .int weight, .int lamp, .int hold, .int fading, .int yr, .int z9]) (va_Qi (fun (r : Int32) (u : Int32 × List Value) => (u.1 = 0 ∧ r = 0 ∧ 0 ≤ ixL 0 c9 ∧ (0 ≤ tone ∧ tone ≤ 99) ∧ (1 ≤ cover ∧ cover ≤ 100) ∧ (0 ≤ weight ∧ weight ≤ 9) ∧ (0 ≤ lamp ∧ lamp ≤ 9) ∧ (0 ≤ hold ∧ hold ≤ 9) ∧ (0 ≤ fading ∧ fading ≤ 9) ∧ (0 ≤ yr ∧ yr ≤ 9999)) ∨ (u.1 = 1 ∧ ¬ (0 ≤ ixL 0 c9 ∧ (0 ≤ tone ∧ tone ≤ 99) ∧ (1 ≤ cover ∧ cover ≤ 100) ∧ (0 ≤ weight ∧ weight ≤ 9) ∧ (0 ≤ lamp ∧ lamp ≤ 9) ∧ (0 ≤ hold ∧ hold ≤ 9) ∧ (0 ≤ fading ∧ fading ≤ 9) ∧ (0 ≤ yr ∧ yr ≤ 9999)))) (fun u t => cB (dC, dI) [] [(mm, .inr (24, .int u.1 :: u.2))] (va_A [(mm, .inr (24, [.int 0, .ref stu, .ref cla, .ref pic, .ref act, .int 5, .int 50, .ref nts, .ref isn, .int 1600, .ref boa, .ref mas, .ref pai, .ref sol, .int 0, .ref bal, .ref leg])), (stu, .inr (5, [.int 0, .ref en.2.2.1, .int 0]))] sz) (fun _ => True) t) (va_A [(mm, .inr (24, [.int 0, .ref stu, .ref cla, .ref pic, .ref act, .int 5, .int 50, .ref nts, .ref isn, .int 1600, .ref boa, .ref mas, .ref pai, .ref sol, .int 0, .ref bal, .ref leg])), (stu, .inr (5, [.int 0, .ref en.2.2.1, .int 0]))] sz)) 2 20 (va_A [(mm, .inr (24, [.int 0, .ref stu, .ref cla, .ref pic, .ref act, .int 5, .int 50, .ref nts, .ref isn, .int 1600, .ref boa, .ref mas, .ref pai, .ref sol, .int 0, .ref bal, .ref leg])), (stu, .inr (5, [.int 0, .ref en.2.2.1, .int 0]))] sz) := by
  refine Met.ofW (cc := cX18_stuff) (maxL := 11) (ret := (some .int)) (by decide) rfl ?_
  intro p e s m args below meth c s₁ B hml hv
  obtain ⟨rfl, hsz, hb0, hE, hPP, hK, hDD, hF0⟩ := hv
  have hx := B.exec
  have hb := B.bytes
  have hr := B.returns
  have hts := atoms_spec (ws := wsX18_stuff) B.pre
  have hown : s.vm.findClass RX18 = some m.cls := findClass_of_methodNamed B.named
  have hlocks := B.notSynchronized
  subst hsz
  have hN0 := en_N hPP hDD rfl
  have hP : va_P (dC, dI) vwCl [(mm, .inr (24, [.int 0, .ref stu, .ref cla, .ref pic, .ref act, .int 5, .int 50, .ref nts, .ref isn, .int 1600, .ref boa, .ref mas, .ref pai, .ref sol, .int 0, .ref bal, .ref leg])), (stu, .inr (5, [.int 0, .ref en.2.2.1, .int 0]))] s.heap := hPP.sub [0, 1] rfl
  have hR0 : va_P (dC, dI) vwCl [] s.heap := hPP.sub [] rfl
  have hD0 : va_D (fun q => b0 ≤ q) [(mm, .inr (24, [.int 0, .ref stu, .ref cla, .ref pic, .ref act, .int 5, .int 50, .ref nts, .ref isn, .int 1600, .ref boa, .ref mas, .ref pai, .ref sol, .int 0, .ref bal, .ref leg])), (stu, .inr (5, [.int 0, .ref en.2.2.1, .int 0]))] := hDD.sub [0, 1] (by decide) rfl
  have hDr : va_D (fun q => b0 ≤ q) [] := hDD.sub [] (by decide) rfl
  have hAb := en_A (sz := s.heap.size) hD0 hb0
  have hD := hD0.self (sz := s.heap.size)
  generalize hAe : va_A [(mm, .inr (24, [.int 0, .ref stu, .ref cla, .ref pic, .ref act, .int 5, .int 50, .ref nts, .ref isn, .int 1600, .ref boa, .ref mas, .ref pai, .ref sol, .int 0, .ref bal, .ref leg])), (stu, .inr (5, [.int 0, .ref en.2.2.1, .int 0]))] s.heap.size = A at hD hAb hN0 ⊢
  have hA : ∀ q : Nat, s.heap.size ≤ q → A q := fun q h => by rw [← hAe]; exact Or.inr h
  have hS : va_S A s.heap s.heap [] := va_S.rf
  have hR := hR0
  have hl := lv_entry [.ref mm, .int c9, .int tone, .int cover, .int weight, .int lamp, .int hold, .int fading, .int yr, .int z9] (n := 11) (Nat.le_of_ble_eq_true rfl)
  rw [lg_entry_eq]
  generalize (lg_sl [.ref mm, .int c9, .int tone, .int cover, .int weight, .int lamp, .int hold, .int fading, .int yr, .int z9] ++ List.replicate (11 - (lg_sl [.ref mm, .int c9, .int tone, .int cover, .int weight, .int lamp, .int hold, .int fading, .int yr, .int z9]).length) Slot.unset).toArray = ls at hl ⊢
  have hl : lv_has ls 11 [(0, .ref mm), (1, .int c9), (2, .int tone), (3, .int cover), (4, .int weight), (5, .int lamp), (6, .int hold), (7, .int fading), (8, .int yr), (9, .int z9)] := hl
  refine lv_aload_n hx hb dX18_stuff_0 rfl (lv_at hl 0 rfl) ?_
  refine lv_iconst (v := 0) hx hb dX18_stuff_1 (by decide) ?_
  refine va_put (D := (dC, dI)) (ci := 24) (v := .int 0) (ty := .int) (C := RX18) (T := TX18) (N := 17) hx hb hts (by decide +kernel) tyX18 tyX18_ok nmX18 hown hK hP hD hS 0 rfl rfl 0 (by decide) (hts (.fieldLink RX18 67 "UnderpaintModel" "code" "I") (by decide +kernel)) (fun _ h9 => h9) rfl (by decide +kernel) rfl rfl (Nat.le_of_ble_eq_true rfl) dX18_stuff_2 (fun H locs hP hD hS => ?_)
  have hP : va_P (dC, dI) vwCl [(mm, .inr (24, [.int 0, .ref stu, .ref cla, .ref pic, .ref act, .int 5, .int 50, .ref nts, .ref isn, .int 1600, .ref boa, .ref mas, .ref pai, .ref sol, .int 0, .ref bal, .ref leg])), (stu, .inr (5, [.int 0, .ref en.2.2.1, .int 0]))] H := hP
  have hD : va_D A [(mm, .inr (24, [.int 0, .ref stu, .ref cla, .ref pic, .ref act, .int 5, .int 50, .ref nts, .ref isn, .int 1600, .ref boa, .ref mas, .ref pai, .ref sol, .int 0, .ref bal, .ref leg])), (stu, .inr (5, [.int 0, .ref en.2.2.1, .int 0]))] := hD
  have hR : va_P (dC, dI) vwCl [] H := fun k q h => by simp at h
  refine va_ldcS hx hb hown (hE.ldc (0, "UnderpaintModel", 80, "sgdpzvfrx") (by decide +kernel)) dX18_stuff_5 ?_
  refine lv_iload_n hx hb dX18_stuff_7 rfl (lv_at hl 1 rfl) ?_
  have hPc := (hP.app hR).sub (ws' := [] ++ []) [] rfl
  have hDc := (en_DD hD hDr hN0 hAb).sub (ws' := [] ++ []) [] (by decide) rfl
  have hKc := hK.sub (tys' := []) [] rfl
  have hFc := va_free (wc := []) hD hS hA [] rfl
  refine va_calli (va_runV (As := [.int c9]) (rest := []) ⟨hx, hb, hml, hown, hts⟩ (c_J0_indexOf l dC dI b0 en H.size 0 c9 (z_c_X18_stuff_146)) (cwV 1 hts gX18_stuff_J0_indexOf_0f7a4 rfl rfl rfl (by decide +kernel) ⟨Nat.le_of_ble_eq_true rfl, Nat.le_of_ble_eq_true rfl⟩) ⟨cP.blind, (en_recv (hE.lit hAb 0 (by decide)).1 hS), cP.use (en_z hb0 hS) (hE.on hAb hS) hPc hKc hDc trivial⟩ rfl rfl hl.1 rfl (lv_room (Nat.le_of_ble_eq_true rfl)) dX18_stuff_8 ⟨Nat.le_of_ble_eq_true rfl, Nat.le_of_ble_eq_true rfl⟩) hS (fun q _ h => hFc q h) hFc (fun r_1 u t H1 locs ht hvm hw hB hz1 hk1 hS => ?_)
  have hP1 : va_P (dC, dI) vwCl [] H1 := fun k q h => by simp at h
  have hD1 : va_D (va_A [] H.size) [] := ⟨fun i j p q h => by simp at h, fun k q h => by simp at h⟩
  try dsimp only at hw
  obtain ⟨hP, hD⟩ := va_join (wr := [(mm, .inr (24, [.int 0, .ref stu, .ref cla, .ref pic, .ref act, .int 5, .int 50, .ref nts, .ref isn, .int 1600, .ref boa, .ref mas, .ref pai, .ref sol, .int 0, .ref bal, .ref leg])), (stu, .inr (5, [.int 0, .ref en.2.2.1, .int 0]))]) (w1 := []) hP hD [] [0, 1] rfl rfl (by decide) (by decide) hk1 hFc hP1 hD1
  generalize H1 = H at hP hS ⊢
  have hP : va_P (dC, dI) vwCl [(mm, .inr (24, [.int 0, .ref stu, .ref cla, .ref pic, .ref act, .int 5, .int 50, .ref nts, .ref isn, .int 1600, .ref boa, .ref mas, .ref pai, .ref sol, .int 0, .ref bal, .ref leg])), (stu, .inr (5, [.int 0, .ref en.2.2.1, .int 0]))] H := hP
  have hD : va_D A [(mm, .inr (24, [.int 0, .ref stu, .ref cla, .ref pic, .ref act, .int 5, .int 50, .ref nts, .ref isn, .int 1600, .ref boa, .ref mas, .ref pai, .ref sol, .int 0, .ref bal, .ref leg])), (stu, .inr (5, [.int 0, .ref en.2.2.1, .int 0]))] := hD
  have hR : va_P (dC, dI) vwCl [] H := fun k q h => by simp at h
  refine W.widen (k := 0) (n := 0) (Nat.le_of_ble_eq_true rfl) (Nat.le_of_ble_eq_true rfl) ?_
  subst r_1
  refine lv_if_lt (tgt := 60) hx hb dX18_stuff_11 (by decide) (fun c_2 => ?_) (fun c_2 => ?_)
  · skip
    refine lv_iconst (v := 0) hx hb dX18_stuff_60 (by decide) ?_
    refine lv_istore (lv' := [(10, .int 0), (0, .ref mm), (1, .int c9), (2, .int tone), (3, .int cover), (4, .int weight), (5, .int lamp), (6, .int hold), (7, .int fading), (8, .int yr), (9, .int z9)]) hx hb dX18_stuff_61 hl (by decide) rfl (fun ls hl => ?_)
    refine lv_iload hx hb dX18_stuff_63 (lv_at hl 0 rfl) ?_
    refine lv_if_eq (tgt := 102) hx hb dX18_stuff_65 (by decide) (fun c_3 => ?_) (fun c_3 => absurd c_3 (by decide))
    refine lv_aload_n hx hb dX18_stuff_102 rfl (lv_at hl 1 rfl) ?_
    refine lv_iconst (v := 1) hx hb dX18_stuff_103 (by decide) ?_
    have hPc := (hP.app hR).sub (ws' := [(mm, .inr (24, .int 0 :: ([.ref stu, .ref cla, .ref pic, .ref act, .int 5, .int 50, .ref nts, .ref isn, .int 1600, .ref boa, .ref mas, .ref pai, .ref sol, .int 0, .ref bal, .ref leg])))] ++ []) [0] rfl
    have hDc := (en_DD hD hDr hN0 hAb).sub (ws' := [(mm, .inr (24, .int 0 :: ([.ref stu, .ref cla, .ref pic, .ref act, .int 5, .int 50, .ref nts, .ref isn, .int 1600, .ref boa, .ref mas, .ref pai, .ref sol, .int 0, .ref bal, .ref leg])))] ++ []) [0] (by decide) rfl
    have hKc := hK.sub (tys' := []) [] rfl
    have hFc := va_free (wc := [(mm, .inr (24, .int 0 :: ([.ref stu, .ref cla, .ref pic, .ref act, .int 5, .int 50, .ref nts, .ref isn, .int 1600, .ref boa, .ref mas, .ref pai, .ref sol, .int 0, .ref bal, .ref leg])))]) hD hS hA [0] rfl
    refine va_calli (va_runV (As := [.int 1]) (rest := []) ⟨hx, hb, hml, hown, hts⟩ (c_X18_fails l dC dI b0 en H.size mm 0 1 ([.ref stu, .ref cla, .ref pic, .ref act, .int 5, .int 50, .ref nts, .ref isn, .int 1600, .ref boa, .ref mas, .ref pai, .ref sol, .int 0, .ref bal, .ref leg])) (cwV 1 hts gX18_stuff_X18_fails rfl rfl rfl (by decide +kernel) ⟨Nat.le_of_ble_eq_true rfl, Nat.le_of_ble_eq_true rfl⟩) ⟨cP.blind, va_recv hK hP (ci := 24) (q0 := 0) rfl rfl, cP.use (en_z hb0 hS) (hE.on hAb hS) hPc hKc hDc trivial⟩ rfl rfl hl.1 rfl (lv_room (Nat.le_of_ble_eq_true rfl)) dX18_stuff_104 ⟨Nat.le_of_ble_eq_true rfl, Nat.le_of_ble_eq_true rfl⟩) hS (fun q _ h => hFc q h) hFc (fun r_4 u t H1 locs ht hvm hw hB hz1 hk1 hS => ?_)
    obtain ⟨hP1, hK1, hD1, hF1⟩ := hB
    rw [ht] at hP1
    try rw [ht] at hF1
    have hK1 := va_K.moved hvm.symm hK1
    try dsimp only at hw
    obtain ⟨hP, hD⟩ := va_join (wr := [(stu, .inr (5, [.int 0, .ref en.2.2.1, .int 0]))]) (w1 := [(mm, .inr (24, [.int 1, .ref stu, .ref cla, .ref pic, .ref act, .int 5, .int 50, .ref nts, .ref isn, .int 1600, .ref boa, .ref mas, .ref pai, .ref sol, .int 0, .ref bal, .ref leg]))]) hP hD [0] [1] rfl rfl (by decide) (by decide) hk1 hFc hP1 hD1
    generalize H1 = H at hP hS ⊢
    have hP : va_P (dC, dI) vwCl [(stu, .inr (5, [.int 0, .ref en.2.2.1, .int 0])), (mm, .inr (24, [.int 1, .ref stu, .ref cla, .ref pic, .ref act, .int 5, .int 50, .ref nts, .ref isn, .int 1600, .ref boa, .ref mas, .ref pai, .ref sol, .int 0, .ref bal, .ref leg]))] H := hP
    have hD : va_D A [(stu, .inr (5, [.int 0, .ref en.2.2.1, .int 0])), (mm, .inr (24, [.int 1, .ref stu, .ref cla, .ref pic, .ref act, .int 5, .int 50, .ref nts, .ref isn, .int 1600, .ref boa, .ref mas, .ref pai, .ref sol, .int 0, .ref bal, .ref leg]))] := hD
    have hR : va_P (dC, dI) vwCl [] H := fun k q h => by simp at h
    refine W.widen (k := 0) (n := 0) (Nat.le_of_ble_eq_true rfl) (Nat.le_of_ble_eq_true rfl) ?_
    subst r_4
    refine W.widen (k := 2) (n := 20) (Nat.le_of_ble_eq_true rfl) (Nat.le_of_ble_eq_true rfl) ?_
    exact W.iret (v := 0) hx hb hr (fun t ht hW => ⟨⟨0, ⟨1, [.ref stu, .ref cla, .ref pic, .ref act, .int 5, .int 50, .ref nts, .ref isn, .int 1600, .ref boa, .ref mas, .ref pai, .ref sol, .int 0, .ref bal, .ref leg]⟩, rfl, (z_c_X18_stuff_147 c9 tone cover weight lamp hold fading yr (Int32.not_le.mpr c_2)), cB.mk ht hW (hP.sub [1] rfl) (hK.sub [] rfl) (hD.sub [1] (by decide) rfl) (trivial)⟩, hS.F ht⟩) hS.2.2 dX18_stuff_107
  · skip
    refine lv_iload_n hx hb dX18_stuff_14 rfl (lv_at hl 2 rfl) ?_
    refine lv_iconst (v := 0) hx hb dX18_stuff_15 (by decide) ?_
    refine lv_bipush (v := 99) hx hb dX18_stuff_16 (by decide) ?_
    have hPc := (hP.app hR).sub (ws' := [] ++ []) [] rfl
    have hDc := (en_DD hD hDr hN0 hAb).sub (ws' := [] ++ []) [] (by decide) rfl
    have hKc := hK.sub (tys' := []) [] rfl
    have hFc := va_free (wc := []) hD hS hA [] rfl
    refine va_calli (va_runS (As := [.int tone, .int 0, .int 99]) (rest := []) ⟨hx, hb, hml, hown, hts⟩ (c_X18_in l dC dI b0 en H.size tone 0 99) (va_cwS 3 hts gX18_stuff_X18_in rfl rfl rfl (by decide +kernel) ⟨Nat.le_of_ble_eq_true rfl, Nat.le_of_ble_eq_true rfl⟩) ⟨cP.blind, cP.use (en_z hb0 hS) (hE.on hAb hS) hPc hKc hDc trivial⟩ rfl rfl hl.1 rfl (lv_room (Nat.le_of_ble_eq_true rfl)) dX18_stuff_18 ⟨Nat.le_of_ble_eq_true rfl, Nat.le_of_ble_eq_true rfl⟩) hS (fun q _ h => hFc q h) hFc (fun r_5 u t H1 locs ht hvm hw hB hz1 hk1 hS => ?_)
    have hP1 : va_P (dC, dI) vwCl [] H1 := fun k q h => by simp at h
    have hD1 : va_D (va_A [] H.size) [] := ⟨fun i j p q h => by simp at h, fun k q h => by simp at h⟩
    try dsimp only at hw
    obtain ⟨hP, hD⟩ := va_join (wr := [(mm, .inr (24, [.int 0, .ref stu, .ref cla, .ref pic, .ref act, .int 5, .int 50, .ref nts, .ref isn, .int 1600, .ref boa, .ref mas, .ref pai, .ref sol, .int 0, .ref bal, .ref leg])), (stu, .inr (5, [.int 0, .ref en.2.2.1, .int 0]))]) (w1 := []) hP hD [] [0, 1] rfl rfl (by decide) (by decide) hk1 hFc hP1 hD1
    generalize H1 = H at hP hS ⊢
    have hP : va_P (dC, dI) vwCl [(mm, .inr (24, [.int 0, .ref stu, .ref cla, .ref pic, .ref act, .int 5, .int 50, .ref nts, .ref isn, .int 1600, .ref boa, .ref mas, .ref pai, .ref sol, .int 0, .ref bal, .ref leg])), (stu, .inr (5, [.int 0, .ref en.2.2.1, .int 0]))] H := hP
    have hD : va_D A [(mm, .inr (24, [.int 0, .ref stu, .ref cla, .ref pic, .ref act, .int 5, .int 50, .ref nts, .ref isn, .int 1600, .ref boa, .ref mas, .ref pai, .ref sol, .int 0, .ref bal, .ref leg])), (stu, .inr (5, [.int 0, .ref en.2.2.1, .int 0]))] := hD
    have hR : va_P (dC, dI) vwCl [] H := fun k q h => by simp at h
    refine W.widen (k := 0) (n := 0) (Nat.le_of_ble_eq_true rfl) (Nat.le_of_ble_eq_true rfl) ?_
    have h_6 := hw
    refine lv_if_eq (tgt := 60) hx hb dX18_stuff_21 (by decide) (fun c_7 => ?_) (fun c_7 => ?_)
    · skip
      refine lv_iconst (v := 0) hx hb dX18_stuff_60 (by decide) ?_
      refine lv_istore (lv' := [(10, .int 0), (0, .ref mm), (1, .int c9), (2, .int tone), (3, .int cover), (4, .int weight), (5, .int lamp), (6, .int hold), (7, .int fading), (8, .int yr), (9, .int z9)]) hx hb dX18_stuff_61 hl (by decide) rfl (fun ls hl => ?_)
      refine lv_iload hx hb dX18_stuff_63 (lv_at hl 0 rfl) ?_
      refine lv_if_eq (tgt := 102) hx hb dX18_stuff_65 (by decide) (fun c_8 => ?_) (fun c_8 => absurd c_8 (by decide))
      refine lv_aload_n hx hb dX18_stuff_102 rfl (lv_at hl 1 rfl) ?_
      refine lv_iconst (v := 1) hx hb dX18_stuff_103 (by decide) ?_
      have hPc := (hP.app hR).sub (ws' := [(mm, .inr (24, .int 0 :: ([.ref stu, .ref cla, .ref pic, .ref act, .int 5, .int 50, .ref nts, .ref isn, .int 1600, .ref boa, .ref mas, .ref pai, .ref sol, .int 0, .ref bal, .ref leg])))] ++ []) [0] rfl
      have hDc := (en_DD hD hDr hN0 hAb).sub (ws' := [(mm, .inr (24, .int 0 :: ([.ref stu, .ref cla, .ref pic, .ref act, .int 5, .int 50, .ref nts, .ref isn, .int 1600, .ref boa, .ref mas, .ref pai, .ref sol, .int 0, .ref bal, .ref leg])))] ++ []) [0] (by decide) rfl
      have hKc := hK.sub (tys' := []) [] rfl
      have hFc := va_free (wc := [(mm, .inr (24, .int 0 :: ([.ref stu, .ref cla, .ref pic, .ref act, .int 5, .int 50, .ref nts, .ref isn, .int 1600, .ref boa, .ref mas, .ref pai, .ref sol, .int 0, .ref bal, .ref leg])))]) hD hS hA [0] rfl
      refine va_calli (va_runV (As := [.int 1]) (rest := []) ⟨hx, hb, hml, hown, hts⟩ (c_X18_fails l dC dI b0 en H.size mm 0 1 ([.ref stu, .ref cla, .ref pic, .ref act, .int 5, .int 50, .ref nts, .ref isn, .int 1600, .ref boa, .ref mas, .ref pai, .ref sol, .int 0, .ref bal, .ref leg])) (cwV 1 hts gX18_stuff_X18_fails rfl rfl rfl (by decide +kernel) ⟨Nat.le_of_ble_eq_true rfl, Nat.le_of_ble_eq_true rfl⟩) ⟨cP.blind, va_recv hK hP (ci := 24) (q0 := 0) rfl rfl, cP.use (en_z hb0 hS) (hE.on hAb hS) hPc hKc hDc trivial⟩ rfl rfl hl.1 rfl (lv_room (Nat.le_of_ble_eq_true rfl)) dX18_stuff_104 ⟨Nat.le_of_ble_eq_true rfl, Nat.le_of_ble_eq_true rfl⟩) hS (fun q _ h => hFc q h) hFc (fun r_9 u t H1 locs ht hvm hw hB hz1 hk1 hS => ?_)
      obtain ⟨hP1, hK1, hD1, hF1⟩ := hB
      rw [ht] at hP1
      try rw [ht] at hF1
      have hK1 := va_K.moved hvm.symm hK1
      try dsimp only at hw
      obtain ⟨hP, hD⟩ := va_join (wr := [(stu, .inr (5, [.int 0, .ref en.2.2.1, .int 0]))]) (w1 := [(mm, .inr (24, [.int 1, .ref stu, .ref cla, .ref pic, .ref act, .int 5, .int 50, .ref nts, .ref isn, .int 1600, .ref boa, .ref mas, .ref pai, .ref sol, .int 0, .ref bal, .ref leg]))]) hP hD [0] [1] rfl rfl (by decide) (by decide) hk1 hFc hP1 hD1
      generalize H1 = H at hP hS ⊢
      have hP : va_P (dC, dI) vwCl [(stu, .inr (5, [.int 0, .ref en.2.2.1, .int 0])), (mm, .inr (24, [.int 1, .ref stu, .ref cla, .ref pic, .ref act, .int 5, .int 50, .ref nts, .ref isn, .int 1600, .ref boa, .ref mas, .ref pai, .ref sol, .int 0, .ref bal, .ref leg]))] H := hP
      have hD : va_D A [(stu, .inr (5, [.int 0, .ref en.2.2.1, .int 0])), (mm, .inr (24, [.int 1, .ref stu, .ref cla, .ref pic, .ref act, .int 5, .int 50, .ref nts, .ref isn, .int 1600, .ref boa, .ref mas, .ref pai, .ref sol, .int 0, .ref bal, .ref leg]))] := hD
      have hR : va_P (dC, dI) vwCl [] H := fun k q h => by simp at h
      refine W.widen (k := 0) (n := 0) (Nat.le_of_ble_eq_true rfl) (Nat.le_of_ble_eq_true rfl) ?_
      subst r_9
      refine W.widen (k := 2) (n := 20) (Nat.le_of_ble_eq_true rfl) (Nat.le_of_ble_eq_true rfl) ?_
      exact W.iret (v := 0) hx hb hr (fun t ht hW => ⟨⟨0, ⟨1, [.ref stu, .ref cla, .ref pic, .ref act, .int 5, .int 50, .ref nts, .ref isn, .int 1600, .ref boa, .ref mas, .ref pai, .ref sol, .int 0, .ref bal, .ref leg]⟩, rfl, (z_c_X18_stuff_148 c9 tone cover weight lamp hold fading yr (Int32.not_lt.mp c_2) (b_no h_6 c_7)), cB.mk ht hW (hP.sub [1] rfl) (hK.sub [] rfl) (hD.sub [1] (by decide) rfl) (trivial)⟩, hS.F ht⟩) hS.2.2 dX18_stuff_107
    · skip
      refine lv_iload_n hx hb dX18_stuff_24 rfl (lv_at hl 3 rfl) ?_
      refine lv_iconst (v := 1) hx hb dX18_stuff_25 (by decide) ?_
      refine lv_bipush (v := 100) hx hb dX18_stuff_26 (by decide) ?_
      have hPc := (hP.app hR).sub (ws' := [] ++ []) [] rfl
      have hDc := (en_DD hD hDr hN0 hAb).sub (ws' := [] ++ []) [] (by decide) rfl
      have hKc := hK.sub (tys' := []) [] rfl
      have hFc := va_free (wc := []) hD hS hA [] rfl
      refine va_calli (va_runS (As := [.int cover, .int 1, .int 100]) (rest := []) ⟨hx, hb, hml, hown, hts⟩ (c_X18_in l dC dI b0 en H.size cover 1 100) (va_cwS 3 hts gX18_stuff_X18_in rfl rfl rfl (by decide +kernel) ⟨Nat.le_of_ble_eq_true rfl, Nat.le_of_ble_eq_true rfl⟩) ⟨cP.blind, cP.use (en_z hb0 hS) (hE.on hAb hS) hPc hKc hDc trivial⟩ rfl rfl hl.1 rfl (lv_room (Nat.le_of_ble_eq_true rfl)) dX18_stuff_28 ⟨Nat.le_of_ble_eq_true rfl, Nat.le_of_ble_eq_true rfl⟩) hS (fun q _ h => hFc q h) hFc (fun r_10 u t H1 locs ht hvm hw hB hz1 hk1 hS => ?_)
      have hP1 : va_P (dC, dI) vwCl [] H1 := fun k q h => by simp at h
      have hD1 : va_D (va_A [] H.size) [] := ⟨fun i j p q h => by simp at h, fun k q h => by simp at h⟩
      try dsimp only at hw
      obtain ⟨hP, hD⟩ := va_join (wr := [(mm, .inr (24, [.int 0, .ref stu, .ref cla, .ref pic, .ref act, .int 5, .int 50, .ref nts, .ref isn, .int 1600, .ref boa, .ref mas, .ref pai, .ref sol, .int 0, .ref bal, .ref leg])), (stu, .inr (5, [.int 0, .ref en.2.2.1, .int 0]))]) (w1 := []) hP hD [] [0, 1] rfl rfl (by decide) (by decide) hk1 hFc hP1 hD1
      generalize H1 = H at hP hS ⊢
      have hP : va_P (dC, dI) vwCl [(mm, .inr (24, [.int 0, .ref stu, .ref cla, .ref pic, .ref act, .int 5, .int 50, .ref nts, .ref isn, .int 1600, .ref boa, .ref mas, .ref pai, .ref sol, .int 0, .ref bal, .ref leg])), (stu, .inr (5, [.int 0, .ref en.2.2.1, .int 0]))] H := hP
      have hD : va_D A [(mm, .inr (24, [.int 0, .ref stu, .ref cla, .ref pic, .ref act, .int 5, .int 50, .ref nts, .ref isn, .int 1600, .ref boa, .ref mas, .ref pai, .ref sol, .int 0, .ref bal, .ref leg])), (stu, .inr (5, [.int 0, .ref en.2.2.1, .int 0]))] := hD
      have hR : va_P (dC, dI) vwCl [] H := fun k q h => by simp at h
      refine W.widen (k := 0) (n := 0) (Nat.le_of_ble_eq_true rfl) (Nat.le_of_ble_eq_true rfl) ?_
      have h_11 := hw
      refine lv_if_eq (tgt := 60) hx hb dX18_stuff_31 (by decide) (fun c_12 => ?_) (fun c_12 => ?_)
      · skip
        refine lv_iconst (v := 0) hx hb dX18_stuff_60 (by decide) ?_
        refine lv_istore (lv' := [(10, .int 0), (0, .ref mm), (1, .int c9), (2, .int tone), (3, .int cover), (4, .int weight), (5, .int lamp), (6, .int hold), (7, .int fading), (8, .int yr), (9, .int z9)]) hx hb dX18_stuff_61 hl (by decide) rfl (fun ls hl => ?_)
        refine lv_iload hx hb dX18_stuff_63 (lv_at hl 0 rfl) ?_
        refine lv_if_eq (tgt := 102) hx hb dX18_stuff_65 (by decide) (fun c_13 => ?_) (fun c_13 => absurd c_13 (by decide))
        refine lv_aload_n hx hb dX18_stuff_102 rfl (lv_at hl 1 rfl) ?_
        refine lv_iconst (v := 1) hx hb dX18_stuff_103 (by decide) ?_
        have hPc := (hP.app hR).sub (ws' := [(mm, .inr (24, .int 0 :: ([.ref stu, .ref cla, .ref pic, .ref act, .int 5, .int 50, .ref nts, .ref isn, .int 1600, .ref boa, .ref mas, .ref pai, .ref sol, .int 0, .ref bal, .ref leg])))] ++ []) [0] rfl
        have hDc := (en_DD hD hDr hN0 hAb).sub (ws' := [(mm, .inr (24, .int 0 :: ([.ref stu, .ref cla, .ref pic, .ref act, .int 5, .int 50, .ref nts, .ref isn, .int 1600, .ref boa, .ref mas, .ref pai, .ref sol, .int 0, .ref bal, .ref leg])))] ++ []) [0] (by decide) rfl
        have hKc := hK.sub (tys' := []) [] rfl
        have hFc := va_free (wc := [(mm, .inr (24, .int 0 :: ([.ref stu, .ref cla, .ref pic, .ref act, .int 5, .int 50, .ref nts, .ref isn, .int 1600, .ref boa, .ref mas, .ref pai, .ref sol, .int 0, .ref bal, .ref leg])))]) hD hS hA [0] rfl
        refine va_calli (va_runV (As := [.int 1]) (rest := []) ⟨hx, hb, hml, hown, hts⟩ (c_X18_fails l dC dI b0 en H.size mm 0 1 ([.ref stu, .ref cla, .ref pic, .ref act, .int 5, .int 50, .ref nts, .ref isn, .int 1600, .ref boa, .ref mas, .ref pai, .ref sol, .int 0, .ref bal, .ref leg])) (cwV 1 hts gX18_stuff_X18_fails rfl rfl rfl (by decide +kernel) ⟨Nat.le_of_ble_eq_true rfl, Nat.le_of_ble_eq_true rfl⟩) ⟨cP.blind, va_recv hK hP (ci := 24) (q0 := 0) rfl rfl, cP.use (en_z hb0 hS) (hE.on hAb hS) hPc hKc hDc trivial⟩ rfl rfl hl.1 rfl (lv_room (Nat.le_of_ble_eq_true rfl)) dX18_stuff_104 ⟨Nat.le_of_ble_eq_true rfl, Nat.le_of_ble_eq_true rfl⟩) hS (fun q _ h => hFc q h) hFc (fun r_14 u t H1 locs ht hvm hw hB hz1 hk1 hS => ?_)
        obtain ⟨hP1, hK1, hD1, hF1⟩ := hB
        rw [ht] at hP1
        try rw [ht] at hF1
        have hK1 := va_K.moved hvm.symm hK1
        try dsimp only at hw
        obtain ⟨hP, hD⟩ := va_join (wr := [(stu, .inr (5, [.int 0, .ref en.2.2.1, .int 0]))]) (w1 := [(mm, .inr (24, [.int 1, .ref stu, .ref cla, .ref pic, .ref act, .int 5, .int 50, .ref nts, .ref isn, .int 1600, .ref boa, .ref mas, .ref pai, .ref sol, .int 0, .ref bal, .ref leg]))]) hP hD [0] [1] rfl rfl (by decide) (by decide) hk1 hFc hP1 hD1
        generalize H1 = H at hP hS ⊢
        have hP : va_P (dC, dI) vwCl [(stu, .inr (5, [.int 0, .ref en.2.2.1, .int 0])), (mm, .inr (24, [.int 1, .ref stu, .ref cla, .ref pic, .ref act, .int 5, .int 50, .ref nts, .ref isn, .int 1600, .ref boa, .ref mas, .ref pai, .ref sol, .int 0, .ref bal, .ref leg]))] H := hP
        have hD : va_D A [(stu, .inr (5, [.int 0, .ref en.2.2.1, .int 0])), (mm, .inr (24, [.int 1, .ref stu, .ref cla, .ref pic, .ref act, .int 5, .int 50, .ref nts, .ref isn, .int 1600, .ref boa, .ref mas, .ref pai, .ref sol, .int 0, .ref bal, .ref leg]))] := hD
        have hR : va_P (dC, dI) vwCl [] H := fun k q h => by simp at h
        refine W.widen (k := 0) (n := 0) (Nat.le_of_ble_eq_true rfl) (Nat.le_of_ble_eq_true rfl) ?_
        subst r_14
        refine W.widen (k := 2) (n := 20) (Nat.le_of_ble_eq_true rfl) (Nat.le_of_ble_eq_true rfl) ?_
        exact W.iret (v := 0) hx hb hr (fun t ht hW => ⟨⟨0, ⟨1, [.ref stu, .ref cla, .ref pic, .ref act, .int 5, .int 50, .ref nts, .ref isn, .int 1600, .ref boa, .ref mas, .ref pai, .ref sol, .int 0, .ref bal, .ref leg]⟩, rfl, (z_c_X18_stuff_149 c9 tone cover weight lamp hold fading yr (Int32.not_lt.mp c_2) (b_yes h_6 c_7) (b_no h_11 c_12)), cB.mk ht hW (hP.sub [1] rfl) (hK.sub [] rfl) (hD.sub [1] (by decide) rfl) (trivial)⟩, hS.F ht⟩) hS.2.2 dX18_stuff_107
      · skip
        refine lv_iload hx hb dX18_stuff_34 (lv_at hl 4 rfl) ?_
        refine lv_iconst (v := 0) hx hb dX18_stuff_36 (by decide) ?_
        refine lv_bipush (v := 9) hx hb dX18_stuff_37 (by decide) ?_
        have hPc := (hP.app hR).sub (ws' := [] ++ []) [] rfl
        have hDc := (en_DD hD hDr hN0 hAb).sub (ws' := [] ++ []) [] (by decide) rfl
        have hKc := hK.sub (tys' := []) [] rfl
        have hFc := va_free (wc := []) hD hS hA [] rfl
        refine va_calli (va_runS (As := [.int weight, .int 0, .int 9]) (rest := []) ⟨hx, hb, hml, hown, hts⟩ (c_X18_in l dC dI b0 en H.size weight 0 9) (va_cwS 3 hts gX18_stuff_X18_in rfl rfl rfl (by decide +kernel) ⟨Nat.le_of_ble_eq_true rfl, Nat.le_of_ble_eq_true rfl⟩) ⟨cP.blind, cP.use (en_z hb0 hS) (hE.on hAb hS) hPc hKc hDc trivial⟩ rfl rfl hl.1 rfl (lv_room (Nat.le_of_ble_eq_true rfl)) dX18_stuff_39 ⟨Nat.le_of_ble_eq_true rfl, Nat.le_of_ble_eq_true rfl⟩) hS (fun q _ h => hFc q h) hFc (fun r_15 u t H1 locs ht hvm hw hB hz1 hk1 hS => ?_)
        have hP1 : va_P (dC, dI) vwCl [] H1 := fun k q h => by simp at h
        have hD1 : va_D (va_A [] H.size) [] := ⟨fun i j p q h => by simp at h, fun k q h => by simp at h⟩
        try dsimp only at hw
        obtain ⟨hP, hD⟩ := va_join (wr := [(mm, .inr (24, [.int 0, .ref stu, .ref cla, .ref pic, .ref act, .int 5, .int 50, .ref nts, .ref isn, .int 1600, .ref boa, .ref mas, .ref pai, .ref sol, .int 0, .ref bal, .ref leg])), (stu, .inr (5, [.int 0, .ref en.2.2.1, .int 0]))]) (w1 := []) hP hD [] [0, 1] rfl rfl (by decide) (by decide) hk1 hFc hP1 hD1
        generalize H1 = H at hP hS ⊢
        have hP : va_P (dC, dI) vwCl [(mm, .inr (24, [.int 0, .ref stu, .ref cla, .ref pic, .ref act, .int 5, .int 50, .ref nts, .ref isn, .int 1600, .ref boa, .ref mas, .ref pai, .ref sol, .int 0, .ref bal, .ref leg])), (stu, .inr (5, [.int 0, .ref en.2.2.1, .int 0]))] H := hP
        have hD : va_D A [(mm, .inr (24, [.int 0, .ref stu, .ref cla, .ref pic, .ref act, .int 5, .int 50, .ref nts, .ref isn, .int 1600, .ref boa, .ref mas, .ref pai, .ref sol, .int 0, .ref bal, .ref leg])), (stu, .inr (5, [.int 0, .ref en.2.2.1, .int 0]))] := hD
        have hR : va_P (dC, dI) vwCl [] H := fun k q h => by simp at h
        refine W.widen (k := 0) (n := 0) (Nat.le_of_ble_eq_true rfl) (Nat.le_of_ble_eq_true rfl) ?_
        have h_16 := hw
        refine lv_if_eq (tgt := 60) hx hb dX18_stuff_42 (by decide) (fun c_17 => ?_) (fun c_17 => ?_)
        · skip
          refine lv_iconst (v := 0) hx hb dX18_stuff_60 (by decide) ?_
          refine lv_istore (lv' := [(10, .int 0), (0, .ref mm), (1, .int c9), (2, .int tone), (3, .int cover), (4, .int weight), (5, .int lamp), (6, .int hold), (7, .int fading), (8, .int yr), (9, .int z9)]) hx hb dX18_stuff_61 hl (by decide) rfl (fun ls hl => ?_)
          refine lv_iload hx hb dX18_stuff_63 (lv_at hl 0 rfl) ?_
          refine lv_if_eq (tgt := 102) hx hb dX18_stuff_65 (by decide) (fun c_18 => ?_) (fun c_18 => absurd c_18 (by decide))
          refine lv_aload_n hx hb dX18_stuff_102 rfl (lv_at hl 1 rfl) ?_
          refine lv_iconst (v := 1) hx hb dX18_stuff_103 (by decide) ?_
          have hPc := (hP.app hR).sub (ws' := [(mm, .inr (24, .int 0 :: ([.ref stu, .ref cla, .ref pic, .ref act, .int 5, .int 50, .ref nts, .ref isn, .int 1600, .ref boa, .ref mas, .ref pai, .ref sol, .int 0, .ref bal, .ref leg])))] ++ []) [0] rfl
          have hDc := (en_DD hD hDr hN0 hAb).sub (ws' := [(mm, .inr (24, .int 0 :: ([.ref stu, .ref cla, .ref pic, .ref act, .int 5, .int 50, .ref nts, .ref isn, .int 1600, .ref boa, .ref mas, .ref pai, .ref sol, .int 0, .ref bal, .ref leg])))] ++ []) [0] (by decide) rfl
          have hKc := hK.sub (tys' := []) [] rfl
          have hFc := va_free (wc := [(mm, .inr (24, .int 0 :: ([.ref stu, .ref cla, .ref pic, .ref act, .int 5, .int 50, .ref nts, .ref isn, .int 1600, .ref boa, .ref mas, .ref pai, .ref sol, .int 0, .ref bal, .ref leg])))]) hD hS hA [0] rfl
          refine va_calli (va_runV (As := [.int 1]) (rest := []) ⟨hx, hb, hml, hown, hts⟩ (c_X18_fails l dC dI b0 en H.size mm 0 1 ([.ref stu, .ref cla, .ref pic, .ref act, .int 5, .int 50, .ref nts, .ref isn, .int 1600, .ref boa, .ref mas, .ref pai, .ref sol, .int 0, .ref bal, .ref leg])) (cwV 1 hts gX18_stuff_X18_fails rfl rfl rfl (by decide +kernel) ⟨Nat.le_of_ble_eq_true rfl, Nat.le_of_ble_eq_true rfl⟩) ⟨cP.blind, va_recv hK hP (ci := 24) (q0 := 0) rfl rfl, cP.use (en_z hb0 hS) (hE.on hAb hS) hPc hKc hDc trivial⟩ rfl rfl hl.1 rfl (lv_room (Nat.le_of_ble_eq_true rfl)) dX18_stuff_104 ⟨Nat.le_of_ble_eq_true rfl, Nat.le_of_ble_eq_true rfl⟩) hS (fun q _ h => hFc q h) hFc (fun r_19 u t H1 locs ht hvm hw hB hz1 hk1 hS => ?_)
          obtain ⟨hP1, hK1, hD1, hF1⟩ := hB
          rw [ht] at hP1
          try rw [ht] at hF1
          have hK1 := va_K.moved hvm.symm hK1
          try dsimp only at hw
          obtain ⟨hP, hD⟩ := va_join (wr := [(stu, .inr (5, [.int 0, .ref en.2.2.1, .int 0]))]) (w1 := [(mm, .inr (24, [.int 1, .ref stu, .ref cla, .ref pic, .ref act, .int 5, .int 50, .ref nts, .ref isn, .int 1600, .ref boa, .ref mas, .ref pai, .ref sol, .int 0, .ref bal, .ref leg]))]) hP hD [0] [1] rfl rfl (by decide) (by decide) hk1 hFc hP1 hD1
          generalize H1 = H at hP hS ⊢
          have hP : va_P (dC, dI) vwCl [(stu, .inr (5, [.int 0, .ref en.2.2.1, .int 0])), (mm, .inr (24, [.int 1, .ref stu, .ref cla, .ref pic, .ref act, .int 5, .int 50, .ref nts, .ref isn, .int 1600, .ref boa, .ref mas, .ref pai, .ref sol, .int 0, .ref bal, .ref leg]))] H := hP
          have hD : va_D A [(stu, .inr (5, [.int 0, .ref en.2.2.1, .int 0])), (mm, .inr (24, [.int 1, .ref stu, .ref cla, .ref pic, .ref act, .int 5, .int 50, .ref nts, .ref isn, .int 1600, .ref boa, .ref mas, .ref pai, .ref sol, .int 0, .ref bal, .ref leg]))] := hD
          have hR : va_P (dC, dI) vwCl [] H := fun k q h => by simp at h
          refine W.widen (k := 0) (n := 0) (Nat.le_of_ble_eq_true rfl) (Nat.le_of_ble_eq_true rfl) ?_
          subst r_19
          refine W.widen (k := 2) (n := 20) (Nat.le_of_ble_eq_true rfl) (Nat.le_of_ble_eq_true rfl) ?_
          exact W.iret (v := 0) hx hb hr (fun t ht hW => ⟨⟨0, ⟨1, [.ref stu, .ref cla, .ref pic, .ref act, .int 5, .int 50, .ref nts, .ref isn, .int 1600, .ref boa, .ref mas, .ref pai, .ref sol, .int 0, .ref bal, .ref leg]⟩, rfl, (z_c_X18_stuff_150 c9 tone cover weight lamp hold fading yr (Int32.not_lt.mp c_2) (b_yes h_6 c_7) (b_yes h_11 c_12) (b_no h_16 c_17)), cB.mk ht hW (hP.sub [1] rfl) (hK.sub [] rfl) (hD.sub [1] (by decide) rfl) (trivial)⟩, hS.F ht⟩) hS.2.2 dX18_stuff_107
        · skip
          refine lv_iload hx hb dX18_stuff_45 (lv_at hl 5 rfl) ?_
          refine lv_iconst (v := 0) hx hb dX18_stuff_47 (by decide) ?_
          refine lv_bipush (v := 9) hx hb dX18_stuff_48 (by decide) ?_
          have hPc := (hP.app hR).sub (ws' := [] ++ []) [] rfl
          have hDc := (en_DD hD hDr hN0 hAb).sub (ws' := [] ++ []) [] (by decide) rfl
          have hKc := hK.sub (tys' := []) [] rfl
          have hFc := va_free (wc := []) hD hS hA [] rfl
          refine va_calli (va_runS (As := [.int lamp, .int 0, .int 9]) (rest := []) ⟨hx, hb, hml, hown, hts⟩ (c_X18_in l dC dI b0 en H.size lamp 0 9) (va_cwS 3 hts gX18_stuff_X18_in rfl rfl rfl (by decide +kernel) ⟨Nat.le_of_ble_eq_true rfl, Nat.le_of_ble_eq_true rfl⟩) ⟨cP.blind, cP.use (en_z hb0 hS) (hE.on hAb hS) hPc hKc hDc trivial⟩ rfl rfl hl.1 rfl (lv_room (Nat.le_of_ble_eq_true rfl)) dX18_stuff_50 ⟨Nat.le_of_ble_eq_true rfl, Nat.le_of_ble_eq_true rfl⟩) hS (fun q _ h => hFc q h) hFc (fun r_20 u t H1 locs ht hvm hw hB hz1 hk1 hS => ?_)
          have hP1 : va_P (dC, dI) vwCl [] H1 := fun k q h => by simp at h
          have hD1 : va_D (va_A [] H.size) [] := ⟨fun i j p q h => by simp at h, fun k q h => by simp at h⟩
          try dsimp only at hw
          obtain ⟨hP, hD⟩ := va_join (wr := [(mm, .inr (24, [.int 0, .ref stu, .ref cla, .ref pic, .ref act, .int 5, .int 50, .ref nts, .ref isn, .int 1600, .ref boa, .ref mas, .ref pai, .ref sol, .int 0, .ref bal, .ref leg])), (stu, .inr (5, [.int 0, .ref en.2.2.1, .int 0]))]) (w1 := []) hP hD [] [0, 1] rfl rfl (by decide) (by decide) hk1 hFc hP1 hD1
          generalize H1 = H at hP hS ⊢
          have hP : va_P (dC, dI) vwCl [(mm, .inr (24, [.int 0, .ref stu, .ref cla, .ref pic, .ref act, .int 5, .int 50, .ref nts, .ref isn, .int 1600, .ref boa, .ref mas, .ref pai, .ref sol, .int 0, .ref bal, .ref leg])), (stu, .inr (5, [.int 0, .ref en.2.2.1, .int 0]))] H := hP
          have hD : va_D A [(mm, .inr (24, [.int 0, .ref stu, .ref cla, .ref pic, .ref act, .int 5, .int 50, .ref nts, .ref isn, .int 1600, .ref boa, .ref mas, .ref pai, .ref sol, .int 0, .ref bal, .ref leg])), (stu, .inr (5, [.int 0, .ref en.2.2.1, .int 0]))] := hD
          have hR : va_P (dC, dI) vwCl [] H := fun k q h => by simp at h
          refine W.widen (k := 0) (n := 0) (Nat.le_of_ble_eq_true rfl) (Nat.le_of_ble_eq_true rfl) ?_
          have h_21 := hw
          refine lv_if_eq (tgt := 60) hx hb dX18_stuff_53 (by decide) (fun c_22 => ?_) (fun c_22 => ?_)
          · skip
            refine lv_iconst (v := 0) hx hb dX18_stuff_60 (by decide) ?_
            refine lv_istore (lv' := [(10, .int 0), (0, .ref mm), (1, .int c9), (2, .int tone), (3, .int cover), (4, .int weight), (5, .int lamp), (6, .int hold), (7, .int fading), (8, .int yr), (9, .int z9)]) hx hb dX18_stuff_61 hl (by decide) rfl (fun ls hl => ?_)
            refine lv_iload hx hb dX18_stuff_63 (lv_at hl 0 rfl) ?_
            refine lv_if_eq (tgt := 102) hx hb dX18_stuff_65 (by decide) (fun c_23 => ?_) (fun c_23 => absurd c_23 (by decide))
            refine lv_aload_n hx hb dX18_stuff_102 rfl (lv_at hl 1 rfl) ?_
            refine lv_iconst (v := 1) hx hb dX18_stuff_103 (by decide) ?_
            have hPc := (hP.app hR).sub (ws' := [(mm, .inr (24, .int 0 :: ([.ref stu, .ref cla, .ref pic, .ref act, .int 5, .int 50, .ref nts, .ref isn, .int 1600, .ref boa, .ref mas, .ref pai, .ref sol, .int 0, .ref bal, .ref leg])))] ++ []) [0] rfl
            have hDc := (en_DD hD hDr hN0 hAb).sub (ws' := [(mm, .inr (24, .int 0 :: ([.ref stu, .ref cla, .ref pic, .ref act, .int 5, .int 50, .ref nts, .ref isn, .int 1600, .ref boa, .ref mas, .ref pai, .ref sol, .int 0, .ref bal, .ref leg])))] ++ []) [0] (by decide) rfl
            have hKc := hK.sub (tys' := []) [] rfl
            have hFc := va_free (wc := [(mm, .inr (24, .int 0 :: ([.ref stu, .ref cla, .ref pic, .ref act, .int 5, .int 50, .ref nts, .ref isn, .int 1600, .ref boa, .ref mas, .ref pai, .ref sol, .int 0, .ref bal, .ref leg])))]) hD hS hA [0] rfl
            refine va_calli (va_runV (As := [.int 1]) (rest := []) ⟨hx, hb, hml, hown, hts⟩ (c_X18_fails l dC dI b0 en H.size mm 0 1 ([.ref stu, .ref cla, .ref pic, .ref act, .int 5, .int 50, .ref nts, .ref isn, .int 1600, .ref boa, .ref mas, .ref pai, .ref sol, .int 0, .ref bal, .ref leg])) (cwV 1 hts gX18_stuff_X18_fails rfl rfl rfl (by decide +kernel) ⟨Nat.le_of_ble_eq_true rfl, Nat.le_of_ble_eq_true rfl⟩) ⟨cP.blind, va_recv hK hP (ci := 24) (q0 := 0) rfl rfl, cP.use (en_z hb0 hS) (hE.on hAb hS) hPc hKc hDc trivial⟩ rfl rfl hl.1 rfl (lv_room (Nat.le_of_ble_eq_true rfl)) dX18_stuff_104 ⟨Nat.le_of_ble_eq_true rfl, Nat.le_of_ble_eq_true rfl⟩) hS (fun q _ h => hFc q h) hFc (fun r_24 u t H1 locs ht hvm hw hB hz1 hk1 hS => ?_)
            obtain ⟨hP1, hK1, hD1, hF1⟩ := hB
            rw [ht] at hP1
            try rw [ht] at hF1
            have hK1 := va_K.moved hvm.symm hK1
            try dsimp only at hw
            obtain ⟨hP, hD⟩ := va_join (wr := [(stu, .inr (5, [.int 0, .ref en.2.2.1, .int 0]))]) (w1 := [(mm, .inr (24, [.int 1, .ref stu, .ref cla, .ref pic, .ref act, .int 5, .int 50, .ref nts, .ref isn, .int 1600, .ref boa, .ref mas, .ref pai, .ref sol, .int 0, .ref bal, .ref leg]))]) hP hD [0] [1] rfl rfl (by decide) (by decide) hk1 hFc hP1 hD1
            generalize H1 = H at hP hS ⊢
            have hP : va_P (dC, dI) vwCl [(stu, .inr (5, [.int 0, .ref en.2.2.1, .int 0])), (mm, .inr (24, [.int 1, .ref stu, .ref cla, .ref pic, .ref act, .int 5, .int 50, .ref nts, .ref isn, .int 1600, .ref boa, .ref mas, .ref pai, .ref sol, .int 0, .ref bal, .ref leg]))] H := hP
            have hD : va_D A [(stu, .inr (5, [.int 0, .ref en.2.2.1, .int 0])), (mm, .inr (24, [.int 1, .ref stu, .ref cla, .ref pic, .ref act, .int 5, .int 50, .ref nts, .ref isn, .int 1600, .ref boa, .ref mas, .ref pai, .ref sol, .int 0, .ref bal, .ref leg]))] := hD
            have hR : va_P (dC, dI) vwCl [] H := fun k q h => by simp at h
            refine W.widen (k := 0) (n := 0) (Nat.le_of_ble_eq_true rfl) (Nat.le_of_ble_eq_true rfl) ?_
            subst r_24
            refine W.widen (k := 2) (n := 20) (Nat.le_of_ble_eq_true rfl) (Nat.le_of_ble_eq_true rfl) ?_
            exact W.iret (v := 0) hx hb hr (fun t ht hW => ⟨⟨0, ⟨1, [.ref stu, .ref cla, .ref pic, .ref act, .int 5, .int 50, .ref nts, .ref isn, .int 1600, .ref boa, .ref mas, .ref pai, .ref sol, .int 0, .ref bal, .ref leg]⟩, rfl, (z_c_X18_stuff_151 c9 tone cover weight lamp hold fading yr (Int32.not_lt.mp c_2) (b_yes h_6 c_7) (b_yes h_11 c_12) (b_yes h_16 c_17) (b_no h_21 c_22)), cB.mk ht hW (hP.sub [1] rfl) (hK.sub [] rfl) (hD.sub [1] (by decide) rfl) (trivial)⟩, hS.F ht⟩) hS.2.2 dX18_stuff_107
          · skip
            refine lv_iconst (v := 1) hx hb dX18_stuff_56 (by decide) ?_
            refine lv_goto (tgt := 61) hx hb dX18_stuff_57 (by decide) ?_
            refine lv_istore (lv' := [(10, .int 1), (0, .ref mm), (1, .int c9), (2, .int tone), (3, .int cover), (4, .int weight), (5, .int lamp), (6, .int hold), (7, .int fading), (8, .int yr), (9, .int z9)]) hx hb dX18_stuff_61 hl (by decide) rfl (fun ls hl => ?_)
            refine lv_iload hx hb dX18_stuff_63 (lv_at hl 0 rfl) ?_
            refine lv_if_eq (tgt := 102) hx hb dX18_stuff_65 (by decide) (fun c_25 => absurd c_25 (by decide)) (fun c_25 => ?_)
            refine lv_iload hx hb dX18_stuff_68 (lv_at hl 7 rfl) ?_
            refine lv_iconst (v := 0) hx hb dX18_stuff_70 (by decide) ?_
            refine lv_bipush (v := 9) hx hb dX18_stuff_71 (by decide) ?_
            have hPc := (hP.app hR).sub (ws' := [] ++ []) [] rfl
            have hDc := (en_DD hD hDr hN0 hAb).sub (ws' := [] ++ []) [] (by decide) rfl
            have hKc := hK.sub (tys' := []) [] rfl
            have hFc := va_free (wc := []) hD hS hA [] rfl
            refine va_calli (va_runS (As := [.int hold, .int 0, .int 9]) (rest := []) ⟨hx, hb, hml, hown, hts⟩ (c_X18_in l dC dI b0 en H.size hold 0 9) (va_cwS 3 hts gX18_stuff_X18_in rfl rfl rfl (by decide +kernel) ⟨Nat.le_of_ble_eq_true rfl, Nat.le_of_ble_eq_true rfl⟩) ⟨cP.blind, cP.use (en_z hb0 hS) (hE.on hAb hS) hPc hKc hDc trivial⟩ rfl rfl hl.1 rfl (lv_room (Nat.le_of_ble_eq_true rfl)) dX18_stuff_73 ⟨Nat.le_of_ble_eq_true rfl, Nat.le_of_ble_eq_true rfl⟩) hS (fun q _ h => hFc q h) hFc (fun r_26 u t H1 locs ht hvm hw hB hz1 hk1 hS => ?_)
            have hP1 : va_P (dC, dI) vwCl [] H1 := fun k q h => by simp at h
            have hD1 : va_D (va_A [] H.size) [] := ⟨fun i j p q h => by simp at h, fun k q h => by simp at h⟩
            try dsimp only at hw
            obtain ⟨hP, hD⟩ := va_join (wr := [(mm, .inr (24, [.int 0, .ref stu, .ref cla, .ref pic, .ref act, .int 5, .int 50, .ref nts, .ref isn, .int 1600, .ref boa, .ref mas, .ref pai, .ref sol, .int 0, .ref bal, .ref leg])), (stu, .inr (5, [.int 0, .ref en.2.2.1, .int 0]))]) (w1 := []) hP hD [] [0, 1] rfl rfl (by decide) (by decide) hk1 hFc hP1 hD1
            generalize H1 = H at hP hS ⊢
            have hP : va_P (dC, dI) vwCl [(mm, .inr (24, [.int 0, .ref stu, .ref cla, .ref pic, .ref act, .int 5, .int 50, .ref nts, .ref isn, .int 1600, .ref boa, .ref mas, .ref pai, .ref sol, .int 0, .ref bal, .ref leg])), (stu, .inr (5, [.int 0, .ref en.2.2.1, .int 0]))] H := hP
            have hD : va_D A [(mm, .inr (24, [.int 0, .ref stu, .ref cla, .ref pic, .ref act, .int 5, .int 50, .ref nts, .ref isn, .int 1600, .ref boa, .ref mas, .ref pai, .ref sol, .int 0, .ref bal, .ref leg])), (stu, .inr (5, [.int 0, .ref en.2.2.1, .int 0]))] := hD
            have hR : va_P (dC, dI) vwCl [] H := fun k q h => by simp at h
            refine W.widen (k := 0) (n := 0) (Nat.le_of_ble_eq_true rfl) (Nat.le_of_ble_eq_true rfl) ?_
            have h_27 := hw
            refine lv_if_eq (tgt := 102) hx hb dX18_stuff_76 (by decide) (fun c_28 => ?_) (fun c_28 => ?_)
            · skip
              refine lv_aload_n hx hb dX18_stuff_102 rfl (lv_at hl 1 rfl) ?_
              refine lv_iconst (v := 1) hx hb dX18_stuff_103 (by decide) ?_
              have hPc := (hP.app hR).sub (ws' := [(mm, .inr (24, .int 0 :: ([.ref stu, .ref cla, .ref pic, .ref act, .int 5, .int 50, .ref nts, .ref isn, .int 1600, .ref boa, .ref mas, .ref pai, .ref sol, .int 0, .ref bal, .ref leg])))] ++ []) [0] rfl
              have hDc := (en_DD hD hDr hN0 hAb).sub (ws' := [(mm, .inr (24, .int 0 :: ([.ref stu, .ref cla, .ref pic, .ref act, .int 5, .int 50, .ref nts, .ref isn, .int 1600, .ref boa, .ref mas, .ref pai, .ref sol, .int 0, .ref bal, .ref leg])))] ++ []) [0] (by decide) rfl
              have hKc := hK.sub (tys' := []) [] rfl
              have hFc := va_free (wc := [(mm, .inr (24, .int 0 :: ([.ref stu, .ref cla, .ref pic, .ref act, .int 5, .int 50, .ref nts, .ref isn, .int 1600, .ref boa, .ref mas, .ref pai, .ref sol, .int 0, .ref bal, .ref leg])))]) hD hS hA [0] rfl
              refine va_calli (va_runV (As := [.int 1]) (rest := []) ⟨hx, hb, hml, hown, hts⟩ (c_X18_fails l dC dI b0 en H.size mm 0 1 ([.ref stu, .ref cla, .ref pic, .ref act, .int 5, .int 50, .ref nts, .ref isn, .int 1600, .ref boa, .ref mas, .ref pai, .ref sol, .int 0, .ref bal, .ref leg])) (cwV 1 hts gX18_stuff_X18_fails rfl rfl rfl (by decide +kernel) ⟨Nat.le_of_ble_eq_true rfl, Nat.le_of_ble_eq_true rfl⟩) ⟨cP.blind, va_recv hK hP (ci := 24) (q0 := 0) rfl rfl, cP.use (en_z hb0 hS) (hE.on hAb hS) hPc hKc hDc trivial⟩ rfl rfl hl.1 rfl (lv_room (Nat.le_of_ble_eq_true rfl)) dX18_stuff_104 ⟨Nat.le_of_ble_eq_true rfl, Nat.le_of_ble_eq_true rfl⟩) hS (fun q _ h => hFc q h) hFc (fun r_29 u t H1 locs ht hvm hw hB hz1 hk1 hS => ?_)
              obtain ⟨hP1, hK1, hD1, hF1⟩ := hB
              rw [ht] at hP1
              try rw [ht] at hF1
              have hK1 := va_K.moved hvm.symm hK1
              try dsimp only at hw
              obtain ⟨hP, hD⟩ := va_join (wr := [(stu, .inr (5, [.int 0, .ref en.2.2.1, .int 0]))]) (w1 := [(mm, .inr (24, [.int 1, .ref stu, .ref cla, .ref pic, .ref act, .int 5, .int 50, .ref nts, .ref isn, .int 1600, .ref boa, .ref mas, .ref pai, .ref sol, .int 0, .ref bal, .ref leg]))]) hP hD [0] [1] rfl rfl (by decide) (by decide) hk1 hFc hP1 hD1
              generalize H1 = H at hP hS ⊢
              have hP : va_P (dC, dI) vwCl [(stu, .inr (5, [.int 0, .ref en.2.2.1, .int 0])), (mm, .inr (24, [.int 1, .ref stu, .ref cla, .ref pic, .ref act, .int 5, .int 50, .ref nts, .ref isn, .int 1600, .ref boa, .ref mas, .ref pai, .ref sol, .int 0, .ref bal, .ref leg]))] H := hP
              have hD : va_D A [(stu, .inr (5, [.int 0, .ref en.2.2.1, .int 0])), (mm, .inr (24, [.int 1, .ref stu, .ref cla, .ref pic, .ref act, .int 5, .int 50, .ref nts, .ref isn, .int 1600, .ref boa, .ref mas, .ref pai, .ref sol, .int 0, .ref bal, .ref leg]))] := hD
              have hR : va_P (dC, dI) vwCl [] H := fun k q h => by simp at h
              refine W.widen (k := 0) (n := 0) (Nat.le_of_ble_eq_true rfl) (Nat.le_of_ble_eq_true rfl) ?_
              subst r_29
              refine W.widen (k := 2) (n := 20) (Nat.le_of_ble_eq_true rfl) (Nat.le_of_ble_eq_true rfl) ?_
              exact W.iret (v := 0) hx hb hr (fun t ht hW => ⟨⟨0, ⟨1, [.ref stu, .ref cla, .ref pic, .ref act, .int 5, .int 50, .ref nts, .ref isn, .int 1600, .ref boa, .ref mas, .ref pai, .ref sol, .int 0, .ref bal, .ref leg]⟩, rfl, (z_c_X18_stuff_152 c9 tone cover weight lamp hold fading yr (Int32.not_lt.mp c_2) (b_yes h_6 c_7) (b_yes h_11 c_12) (b_yes h_16 c_17) (b_yes h_21 c_22) (b_no h_27 c_28)), cB.mk ht hW (hP.sub [1] rfl) (hK.sub [] rfl) (hD.sub [1] (by decide) rfl) (trivial)⟩, hS.F ht⟩) hS.2.2 dX18_stuff_107
            · skip
              refine lv_iload hx hb dX18_stuff_79 (lv_at hl 8 rfl) ?_
              refine lv_iconst (v := 0) hx hb dX18_stuff_81 (by decide) ?_
              refine lv_bipush (v := 9) hx hb dX18_stuff_82 (by decide) ?_
              have hPc := (hP.app hR).sub (ws' := [] ++ []) [] rfl
              have hDc := (en_DD hD hDr hN0 hAb).sub (ws' := [] ++ []) [] (by decide) rfl
              have hKc := hK.sub (tys' := []) [] rfl
              have hFc := va_free (wc := []) hD hS hA [] rfl
              refine va_calli (va_runS (As := [.int fading, .int 0, .int 9]) (rest := []) ⟨hx, hb, hml, hown, hts⟩ (c_X18_in l dC dI b0 en H.size fading 0 9) (va_cwS 3 hts gX18_stuff_X18_in rfl rfl rfl (by decide +kernel) ⟨Nat.le_of_ble_eq_true rfl, Nat.le_of_ble_eq_true rfl⟩) ⟨cP.blind, cP.use (en_z hb0 hS) (hE.on hAb hS) hPc hKc hDc trivial⟩ rfl rfl hl.1 rfl (lv_room (Nat.le_of_ble_eq_true rfl)) dX18_stuff_84 ⟨Nat.le_of_ble_eq_true rfl, Nat.le_of_ble_eq_true rfl⟩) hS (fun q _ h => hFc q h) hFc (fun r_30 u t H1 locs ht hvm hw hB hz1 hk1 hS => ?_)
              have hP1 : va_P (dC, dI) vwCl [] H1 := fun k q h => by simp at h
              have hD1 : va_D (va_A [] H.size) [] := ⟨fun i j p q h => by simp at h, fun k q h => by simp at h⟩
              try dsimp only at hw
              obtain ⟨hP, hD⟩ := va_join (wr := [(mm, .inr (24, [.int 0, .ref stu, .ref cla, .ref pic, .ref act, .int 5, .int 50, .ref nts, .ref isn, .int 1600, .ref boa, .ref mas, .ref pai, .ref sol, .int 0, .ref bal, .ref leg])), (stu, .inr (5, [.int 0, .ref en.2.2.1, .int 0]))]) (w1 := []) hP hD [] [0, 1] rfl rfl (by decide) (by decide) hk1 hFc hP1 hD1
              generalize H1 = H at hP hS ⊢
              have hP : va_P (dC, dI) vwCl [(mm, .inr (24, [.int 0, .ref stu, .ref cla, .ref pic, .ref act, .int 5, .int 50, .ref nts, .ref isn, .int 1600, .ref boa, .ref mas, .ref pai, .ref sol, .int 0, .ref bal, .ref leg])), (stu, .inr (5, [.int 0, .ref en.2.2.1, .int 0]))] H := hP
              have hD : va_D A [(mm, .inr (24, [.int 0, .ref stu, .ref cla, .ref pic, .ref act, .int 5, .int 50, .ref nts, .ref isn, .int 1600, .ref boa, .ref mas, .ref pai, .ref sol, .int 0, .ref bal, .ref leg])), (stu, .inr (5, [.int 0, .ref en.2.2.1, .int 0]))] := hD
              have hR : va_P (dC, dI) vwCl [] H := fun k q h => by simp at h
              refine W.widen (k := 0) (n := 0) (Nat.le_of_ble_eq_true rfl) (Nat.le_of_ble_eq_true rfl) ?_
              have h_31 := hw
              refine lv_if_eq (tgt := 102) hx hb dX18_stuff_87 (by decide) (fun c_32 => ?_) (fun c_32 => ?_)
              · skip
                refine lv_aload_n hx hb dX18_stuff_102 rfl (lv_at hl 1 rfl) ?_
                refine lv_iconst (v := 1) hx hb dX18_stuff_103 (by decide) ?_
                have hPc := (hP.app hR).sub (ws' := [(mm, .inr (24, .int 0 :: ([.ref stu, .ref cla, .ref pic, .ref act, .int 5, .int 50, .ref nts, .ref isn, .int 1600, .ref boa, .ref mas, .ref pai, .ref sol, .int 0, .ref bal, .ref leg])))] ++ []) [0] rfl
                have hDc := (en_DD hD hDr hN0 hAb).sub (ws' := [(mm, .inr (24, .int 0 :: ([.ref stu, .ref cla, .ref pic, .ref act, .int 5, .int 50, .ref nts, .ref isn, .int 1600, .ref boa, .ref mas, .ref pai, .ref sol, .int 0, .ref bal, .ref leg])))] ++ []) [0] (by decide) rfl
                have hKc := hK.sub (tys' := []) [] rfl
                have hFc := va_free (wc := [(mm, .inr (24, .int 0 :: ([.ref stu, .ref cla, .ref pic, .ref act, .int 5, .int 50, .ref nts, .ref isn, .int 1600, .ref boa, .ref mas, .ref pai, .ref sol, .int 0, .ref bal, .ref leg])))]) hD hS hA [0] rfl
                refine va_calli (va_runV (As := [.int 1]) (rest := []) ⟨hx, hb, hml, hown, hts⟩ (c_X18_fails l dC dI b0 en H.size mm 0 1 ([.ref stu, .ref cla, .ref pic, .ref act, .int 5, .int 50, .ref nts, .ref isn, .int 1600, .ref boa, .ref mas, .ref pai, .ref sol, .int 0, .ref bal, .ref leg])) (cwV 1 hts gX18_stuff_X18_fails rfl rfl rfl (by decide +kernel) ⟨Nat.le_of_ble_eq_true rfl, Nat.le_of_ble_eq_true rfl⟩) ⟨cP.blind, va_recv hK hP (ci := 24) (q0 := 0) rfl rfl, cP.use (en_z hb0 hS) (hE.on hAb hS) hPc hKc hDc trivial⟩ rfl rfl hl.1 rfl (lv_room (Nat.le_of_ble_eq_true rfl)) dX18_stuff_104 ⟨Nat.le_of_ble_eq_true rfl, Nat.le_of_ble_eq_true rfl⟩) hS (fun q _ h => hFc q h) hFc (fun r_33 u t H1 locs ht hvm hw hB hz1 hk1 hS => ?_)
                obtain ⟨hP1, hK1, hD1, hF1⟩ := hB
                rw [ht] at hP1
                try rw [ht] at hF1
                have hK1 := va_K.moved hvm.symm hK1
                try dsimp only at hw
                obtain ⟨hP, hD⟩ := va_join (wr := [(stu, .inr (5, [.int 0, .ref en.2.2.1, .int 0]))]) (w1 := [(mm, .inr (24, [.int 1, .ref stu, .ref cla, .ref pic, .ref act, .int 5, .int 50, .ref nts, .ref isn, .int 1600, .ref boa, .ref mas, .ref pai, .ref sol, .int 0, .ref bal, .ref leg]))]) hP hD [0] [1] rfl rfl (by decide) (by decide) hk1 hFc hP1 hD1
                generalize H1 = H at hP hS ⊢
                have hP : va_P (dC, dI) vwCl [(stu, .inr (5, [.int 0, .ref en.2.2.1, .int 0])), (mm, .inr (24, [.int 1, .ref stu, .ref cla, .ref pic, .ref act, .int 5, .int 50, .ref nts, .ref isn, .int 1600, .ref boa, .ref mas, .ref pai, .ref sol, .int 0, .ref bal, .ref leg]))] H := hP
                have hD : va_D A [(stu, .inr (5, [.int 0, .ref en.2.2.1, .int 0])), (mm, .inr (24, [.int 1, .ref stu, .ref cla, .ref pic, .ref act, .int 5, .int 50, .ref nts, .ref isn, .int 1600, .ref boa, .ref mas, .ref pai, .ref sol, .int 0, .ref bal, .ref leg]))] := hD
                have hR : va_P (dC, dI) vwCl [] H := fun k q h => by simp at h
                refine W.widen (k := 0) (n := 0) (Nat.le_of_ble_eq_true rfl) (Nat.le_of_ble_eq_true rfl) ?_
                subst r_33
                refine W.widen (k := 2) (n := 20) (Nat.le_of_ble_eq_true rfl) (Nat.le_of_ble_eq_true rfl) ?_
                exact W.iret (v := 0) hx hb hr (fun t ht hW => ⟨⟨0, ⟨1, [.ref stu, .ref cla, .ref pic, .ref act, .int 5, .int 50, .ref nts, .ref isn, .int 1600, .ref boa, .ref mas, .ref pai, .ref sol, .int 0, .ref bal, .ref leg]⟩, rfl, (z_c_X18_stuff_153 c9 tone cover weight lamp hold fading yr (Int32.not_lt.mp c_2) (b_yes h_6 c_7) (b_yes h_11 c_12) (b_yes h_16 c_17) (b_yes h_21 c_22) (b_yes h_27 c_28) (b_no h_31 c_32)), cB.mk ht hW (hP.sub [1] rfl) (hK.sub [] rfl) (hD.sub [1] (by decide) rfl) (trivial)⟩, hS.F ht⟩) hS.2.2 dX18_stuff_107
              · skip
                refine lv_iload hx hb dX18_stuff_90 (lv_at hl 9 rfl) ?_
                refine lv_iconst (v := 0) hx hb dX18_stuff_92 (by decide) ?_
                refine lv_sipush (v := 9999) hx hb dX18_stuff_93 (by decide) ?_
                have hPc := (hP.app hR).sub (ws' := [] ++ []) [] rfl
                have hDc := (en_DD hD hDr hN0 hAb).sub (ws' := [] ++ []) [] (by decide) rfl
                have hKc := hK.sub (tys' := []) [] rfl
                have hFc := va_free (wc := []) hD hS hA [] rfl
                refine va_calli (va_runS (As := [.int yr, .int 0, .int 9999]) (rest := []) ⟨hx, hb, hml, hown, hts⟩ (c_X18_in l dC dI b0 en H.size yr 0 9999) (va_cwS 3 hts gX18_stuff_X18_in rfl rfl rfl (by decide +kernel) ⟨Nat.le_of_ble_eq_true rfl, Nat.le_of_ble_eq_true rfl⟩) ⟨cP.blind, cP.use (en_z hb0 hS) (hE.on hAb hS) hPc hKc hDc trivial⟩ rfl rfl hl.1 rfl (lv_room (Nat.le_of_ble_eq_true rfl)) dX18_stuff_96 ⟨Nat.le_of_ble_eq_true rfl, Nat.le_of_ble_eq_true rfl⟩) hS (fun q _ h => hFc q h) hFc (fun r_34 u t H1 locs ht hvm hw hB hz1 hk1 hS => ?_)
                have hP1 : va_P (dC, dI) vwCl [] H1 := fun k q h => by simp at h
                have hD1 : va_D (va_A [] H.size) [] := ⟨fun i j p q h => by simp at h, fun k q h => by simp at h⟩
                try dsimp only at hw
                obtain ⟨hP, hD⟩ := va_join (wr := [(mm, .inr (24, [.int 0, .ref stu, .ref cla, .ref pic, .ref act, .int 5, .int 50, .ref nts, .ref isn, .int 1600, .ref boa, .ref mas, .ref pai, .ref sol, .int 0, .ref bal, .ref leg])), (stu, .inr (5, [.int 0, .ref en.2.2.1, .int 0]))]) (w1 := []) hP hD [] [0, 1] rfl rfl (by decide) (by decide) hk1 hFc hP1 hD1
                generalize H1 = H at hP hS ⊢
                have hP : va_P (dC, dI) vwCl [(mm, .inr (24, [.int 0, .ref stu, .ref cla, .ref pic, .ref act, .int 5, .int 50, .ref nts, .ref isn, .int 1600, .ref boa, .ref mas, .ref pai, .ref sol, .int 0, .ref bal, .ref leg])), (stu, .inr (5, [.int 0, .ref en.2.2.1, .int 0]))] H := hP
                have hD : va_D A [(mm, .inr (24, [.int 0, .ref stu, .ref cla, .ref pic, .ref act, .int 5, .int 50, .ref nts, .ref isn, .int 1600, .ref boa, .ref mas, .ref pai, .ref sol, .int 0, .ref bal, .ref leg])), (stu, .inr (5, [.int 0, .ref en.2.2.1, .int 0]))] := hD
                have hR : va_P (dC, dI) vwCl [] H := fun k q h => by simp at h
                refine W.widen (k := 0) (n := 0) (Nat.le_of_ble_eq_true rfl) (Nat.le_of_ble_eq_true rfl) ?_
                have h_35 := hw
                refine lv_if_ne (tgt := 108) hx hb dX18_stuff_99 (by decide) (fun c_36 => ?_) (fun c_36 => ?_)
                · skip
                  refine lv_aload_n hx hb dX18_stuff_108 rfl (lv_at hl 1 rfl) ?_
                  refine va_get (D := (dC, dI)) (ci := 24) (v := .ref stu) (C := RX18) (T := TX18) (N := 17) hx hb hts (by decide +kernel) hown hK hP 0 rfl rfl 1 (by decide) (hts (.fieldLink RX18 10 "UnderpaintModel" "stuffs" "Ljava/util/List;") (by decide +kernel)) (fun _ h9 => h9) rfl dX18_stuff_109 ?_
                  have hPc := (hP.app hR).sub (ws' := [] ++ [(stu, .inr (5, [.int 0, .ref en.2.2.1, .int 0]))]) [1] rfl
                  have hDc := (en_DD hD hDr hN0 hAb).sub (ws' := [] ++ [(stu, .inr (5, [.int 0, .ref en.2.2.1, .int 0]))]) [1] (by decide) rfl
                  have hKc := hK.sub (tys' := []) [] rfl
                  have hFc := va_free (wc := []) hD hS hA [] rfl
                  refine va_callFi (va_runF (As := []) (rest := []) (hK.1 5 _ rfl).2 ⟨hx, hb, hml, hown, hts⟩ (c_Jx4a65c_size l dC dI b0 en H.size stu en.2.2.1 0 0) (va_cwF 0 hts gX18_stuff_Jx4a65c_size_8abf5_f74Jx4a65c rfl rfl rfl (hE.face ("java/util/ArrayList", ⟨"java/util/List", "size", "()I"⟩, ⟨"java/util/ArrayList", "size", "()I"⟩) (by decide +kernel)) (by decide +kernel) ⟨Nat.le_of_ble_eq_true rfl, Nat.le_of_ble_eq_true rfl⟩) ⟨cP.blind, va_recv hK hP (ci := 5) (q0 := 1) rfl rfl, cP.use (en_z hb0 hS) (hE.on hAb hS) hPc hKc hDc trivial⟩ rfl rfl hl.1 rfl (lv_room (Nat.le_of_ble_eq_true rfl)) dX18_stuff_112 ⟨Nat.le_of_ble_eq_true rfl, Nat.le_of_ble_eq_true rfl⟩) hS (fun q _ h => hFc q h) hFc (fun r_37 u t H1 locs ht hvm hw hB hz1 hk1 hS => ?_)
                  have hP1 : va_P (dC, dI) vwCl [] H1 := fun k q h => by simp at h
                  have hD1 : va_D (va_A [] H.size) [] := ⟨fun i j p q h => by simp at h, fun k q h => by simp at h⟩
                  try dsimp only at hw
                  obtain ⟨hP, hD⟩ := va_join (wr := [(mm, .inr (24, [.int 0, .ref stu, .ref cla, .ref pic, .ref act, .int 5, .int 50, .ref nts, .ref isn, .int 1600, .ref boa, .ref mas, .ref pai, .ref sol, .int 0, .ref bal, .ref leg])), (stu, .inr (5, [.int 0, .ref en.2.2.1, .int 0]))]) (w1 := []) hP hD [] [0, 1] rfl rfl (by decide) (by decide) hk1 hFc hP1 hD1
                  generalize H1 = H at hP hS ⊢
                  have hP : va_P (dC, dI) vwCl [(mm, .inr (24, [.int 0, .ref stu, .ref cla, .ref pic, .ref act, .int 5, .int 50, .ref nts, .ref isn, .int 1600, .ref boa, .ref mas, .ref pai, .ref sol, .int 0, .ref bal, .ref leg])), (stu, .inr (5, [.int 0, .ref en.2.2.1, .int 0]))] H := hP
                  have hD : va_D A [(mm, .inr (24, [.int 0, .ref stu, .ref cla, .ref pic, .ref act, .int 5, .int 50, .ref nts, .ref isn, .int 1600, .ref boa, .ref mas, .ref pai, .ref sol, .int 0, .ref bal, .ref leg])), (stu, .inr (5, [.int 0, .ref en.2.2.1, .int 0]))] := hD
                  have hR : va_P (dC, dI) vwCl [] H := fun k q h => by simp at h
                  refine W.widen (k := 0) (n := 0) (Nat.le_of_ble_eq_true rfl) (Nat.le_of_ble_eq_true rfl) ?_
                  subst r_37
                  refine lv_bipush (v := 12) hx hb dX18_stuff_117 (by decide) ?_
                  refine lv_icmp_ne (tgt := 128) hx hb dX18_stuff_119 (by decide) (fun c_38 => ?_) (fun c_38 => absurd c_38 (by decide))
                  refine lv_aload_n hx hb dX18_stuff_128 rfl (lv_at hl 1 rfl) ?_
                  refine va_get (D := (dC, dI)) (ci := 24) (v := .ref stu) (C := RX18) (T := TX18) (N := 17) hx hb hts (by decide +kernel) hown hK hP 0 rfl rfl 1 (by decide) (hts (.fieldLink RX18 10 "UnderpaintModel" "stuffs" "Ljava/util/List;") (by decide +kernel)) (fun _ h9 => h9) rfl dX18_stuff_129 ?_
                  refine va_new (ci := 23) (fs := [.int 0, .int 0, .int 0, .int 0, .int 0, .int 0, .int 0, .int 0, .int 0, .int 0]) (C := RX17) (T := TX17) (N := 10) hx hb hts (by decide +kernel) tyX17 tyX17_ok hown (hts (.classLink RX18 91 RX17) (by decide +kernel)) (hts (.instantiable RX17 10) (by decide +kernel)) (hts (.initialized RX17) (by decide +kernel)) hK hP hD hS hA rfl (fun j hj => by rcases (show j = 0 ∨ j = 1 ∨ j = 2 ∨ j = 3 ∨ j = 4 ∨ j = 5 ∨ j = 6 ∨ j = 7 ∨ j = 8 ∨ j = 9 by omega) with rfl | rfl | rfl | rfl | rfl | rfl | rfl | rfl | rfl | rfl <;> rfl) (Nat.le_of_ble_eq_true rfl) (Nat.le_of_ble_eq_true rfl) dX18_stuff_132 (fun q_39 H hP hD hS => ?_)
                  have hP : va_P (dC, dI) vwCl [(mm, .inr (24, [.int 0, .ref stu, .ref cla, .ref pic, .ref act, .int 5, .int 50, .ref nts, .ref isn, .int 1600, .ref boa, .ref mas, .ref pai, .ref sol, .int 0, .ref bal, .ref leg])), (stu, .inr (5, [.int 0, .ref en.2.2.1, .int 0])), (q_39, .inr (23, [.int 0, .int 0, .int 0, .int 0, .int 0, .int 0, .int 0, .int 0, .int 0, .int 0]))] H := hP
                  have hD : va_D A [(mm, .inr (24, [.int 0, .ref stu, .ref cla, .ref pic, .ref act, .int 5, .int 50, .ref nts, .ref isn, .int 1600, .ref boa, .ref mas, .ref pai, .ref sol, .int 0, .ref bal, .ref leg])), (stu, .inr (5, [.int 0, .ref en.2.2.1, .int 0])), (q_39, .inr (23, [.int 0, .int 0, .int 0, .int 0, .int 0, .int 0, .int 0, .int 0, .int 0, .int 0]))] := hD
                  have hR : va_P (dC, dI) vwCl [] H := fun k q h => by simp at h
                  refine W.widen (k := 1) (n := 10) (Nat.le_of_ble_eq_true rfl) (Nat.le_of_ble_eq_true rfl) ?_
                  refine lv_dup hx hb dX18_stuff_135 rfl ?_
                  refine lv_aload_n hx hb dX18_stuff_136 rfl (lv_at hl 1 rfl) ?_
                  refine va_get (D := (dC, dI)) (ci := 24) (v := .ref stu) (C := RX18) (T := TX18) (N := 17) hx hb hts (by decide +kernel) hown hK hP 0 rfl rfl 1 (by decide) (hts (.fieldLink RX18 10 "UnderpaintModel" "stuffs" "Ljava/util/List;") (by decide +kernel)) (fun _ h9 => h9) rfl dX18_stuff_137 ?_
                  have hPc := (hP.app hR).sub (ws' := [] ++ [(stu, .inr (5, [.int 0, .ref en.2.2.1, .int 0]))]) [1] rfl
                  have hDc := (en_DD hD hDr hN0 hAb).sub (ws' := [] ++ [(stu, .inr (5, [.int 0, .ref en.2.2.1, .int 0]))]) [1] (by decide) rfl
                  have hKc := hK.sub (tys' := []) [] rfl
                  have hFc := va_free (wc := []) hD hS hA [] rfl
                  refine va_callFi (va_runF (As := []) (rest := [.ref q_39, .ref q_39, .ref stu]) (hK.1 5 _ rfl).2 ⟨hx, hb, hml, hown, hts⟩ (c_Jx4a65c_size l dC dI b0 en H.size stu en.2.2.1 0 0) (va_cwF 0 hts gX18_stuff_Jx4a65c_size_8abf5_f74Jx4a65c rfl rfl rfl (hE.face ("java/util/ArrayList", ⟨"java/util/List", "size", "()I"⟩, ⟨"java/util/ArrayList", "size", "()I"⟩) (by decide +kernel)) (by decide +kernel) ⟨Nat.le_of_ble_eq_true rfl, Nat.le_of_ble_eq_true rfl⟩) ⟨cP.blind, va_recv hK hP (ci := 5) (q0 := 1) rfl rfl, cP.use (en_z hb0 hS) (hE.on hAb hS) hPc hKc hDc trivial⟩ rfl rfl hl.1 rfl (lv_room (Nat.le_of_ble_eq_true rfl)) dX18_stuff_140 ⟨Nat.le_of_ble_eq_true rfl, Nat.le_of_ble_eq_true rfl⟩) hS (fun q _ h => hFc q h) hFc (fun r_40 u t H1 locs ht hvm hw hB hz1 hk1 hS => ?_)
                  have hP1 : va_P (dC, dI) vwCl [] H1 := fun k q h => by simp at h
                  have hD1 : va_D (va_A [] H.size) [] := ⟨fun i j p q h => by simp at h, fun k q h => by simp at h⟩
                  try dsimp only at hw
                  obtain ⟨hP, hD⟩ := va_join (wr := [(mm, .inr (24, [.int 0, .ref stu, .ref cla, .ref pic, .ref act, .int 5, .int 50, .ref nts, .ref isn, .int 1600, .ref boa, .ref mas, .ref pai, .ref sol, .int 0, .ref bal, .ref leg])), (stu, .inr (5, [.int 0, .ref en.2.2.1, .int 0])), (q_39, .inr (23, [.int 0, .int 0, .int 0, .int 0, .int 0, .int 0, .int 0, .int 0, .int 0, .int 0]))]) (w1 := []) hP hD [] [0, 1, 2] rfl rfl (by decide) (by decide) hk1 hFc hP1 hD1
                  generalize H1 = H at hP hS ⊢
                  have hP : va_P (dC, dI) vwCl [(mm, .inr (24, [.int 0, .ref stu, .ref cla, .ref pic, .ref act, .int 5, .int 50, .ref nts, .ref isn, .int 1600, .ref boa, .ref mas, .ref pai, .ref sol, .int 0, .ref bal, .ref leg])), (stu, .inr (5, [.int 0, .ref en.2.2.1, .int 0])), (q_39, .inr (23, [.int 0, .int 0, .int 0, .int 0, .int 0, .int 0, .int 0, .int 0, .int 0, .int 0]))] H := hP
                  have hD : va_D A [(mm, .inr (24, [.int 0, .ref stu, .ref cla, .ref pic, .ref act, .int 5, .int 50, .ref nts, .ref isn, .int 1600, .ref boa, .ref mas, .ref pai, .ref sol, .int 0, .ref bal, .ref leg])), (stu, .inr (5, [.int 0, .ref en.2.2.1, .int 0])), (q_39, .inr (23, [.int 0, .int 0, .int 0, .int 0, .int 0, .int 0, .int 0, .int 0, .int 0, .int 0]))] := hD
                  have hR : va_P (dC, dI) vwCl [] H := fun k q h => by simp at h
                  refine W.widen (k := 1) (n := 10) (Nat.le_of_ble_eq_true rfl) (Nat.le_of_ble_eq_true rfl) ?_
                  subst r_40
                  refine lv_iload_n hx hb dX18_stuff_145 rfl (lv_at hl 2 rfl) ?_
                  refine lv_iload_n hx hb dX18_stuff_146 rfl (lv_at hl 3 rfl) ?_
                  refine lv_iload_n hx hb dX18_stuff_147 rfl (lv_at hl 4 rfl) ?_
                  refine lv_iload hx hb dX18_stuff_148 (lv_at hl 5 rfl) ?_
                  refine lv_iload hx hb dX18_stuff_150 (lv_at hl 6 rfl) ?_
                  refine lv_iload hx hb dX18_stuff_152 (lv_at hl 7 rfl) ?_
                  refine lv_iload hx hb dX18_stuff_154 (lv_at hl 8 rfl) ?_
                  refine lv_iload hx hb dX18_stuff_156 (lv_at hl 9 rfl) ?_
                  refine lv_iload hx hb dX18_stuff_158 (lv_at hl 10 rfl) ?_
                  have hPc := (hP.app hR).sub (ws' := [(q_39, .inr (23, [.int 0, .int 0, .int 0, .int 0, .int 0, .int 0, .int 0, .int 0, .int 0, .int 0]))] ++ []) [2] rfl
                  have hDc := (en_DD hD hDr hN0 hAb).sub (ws' := [(q_39, .inr (23, [.int 0, .int 0, .int 0, .int 0, .int 0, .int 0, .int 0, .int 0, .int 0, .int 0]))] ++ []) [2] (by decide) rfl
                  have hKc := hK.sub (tys' := []) [] rfl
                  have hFc := va_free (wc := [(q_39, .inr (23, [.int 0, .int 0, .int 0, .int 0, .int 0, .int 0, .int 0, .int 0, .int 0, .int 0]))]) hD hS hA [2] rfl
                  refine va_callv (va_runI (As := [.int 0, .int c9, .int tone, .int cover, .int weight, .int lamp, .int hold, .int fading, .int yr, .int z9]) (rest := [.ref q_39, .ref stu]) ⟨hx, hb, hml, hown, hts⟩ (c_X17_init l dC dI b0 en H.size q_39 0 c9 tone cover weight lamp hold fading yr z9 hnar_c9 hfit_c9 hnar_z9 hfit_z9) (cwI 10 hts gX18_stuff_X17_init rfl rfl rfl (hts (.initialized RX17) (by decide +kernel)) (hts (.methodLink RX18 93 yX17_init) (by decide +kernel)) (hts (.instanceMethod yX17_init) (by decide +kernel)) rfl (by decide +kernel) ⟨Nat.le_of_ble_eq_true rfl, Nat.le_of_ble_eq_true rfl⟩) ⟨cP.blind, cP.use (en_z hb0 hS) (hE.on hAb hS) hPc hKc hDc trivial⟩ rfl rfl hl.1 rfl (lv_room (Nat.le_of_ble_eq_true rfl)) dX18_stuff_160 ⟨Nat.le_of_ble_eq_true rfl, Nat.le_of_ble_eq_true rfl⟩) hS (fun q _ h => hFc q h) hFc (fun u t H1 locs ht hvm hw hB hz1 hk1 hS => ?_)
                  obtain ⟨hP1, hK1, hD1, hF1⟩ := hB
                  rw [ht] at hP1
                  try rw [ht] at hF1
                  have hK1 := va_K.moved hvm.symm hK1
                  try dsimp only at hw
                  obtain ⟨hP, hD⟩ := va_join (wr := [(mm, .inr (24, [.int 0, .ref stu, .ref cla, .ref pic, .ref act, .int 5, .int 50, .ref nts, .ref isn, .int 1600, .ref boa, .ref mas, .ref pai, .ref sol, .int 0, .ref bal, .ref leg])), (stu, .inr (5, [.int 0, .ref en.2.2.1, .int 0]))]) (w1 := [(q_39, .inr (23, [.int 0, .int c9, .int tone, .int cover, .int weight, .int lamp, .int hold, .int fading, .int yr, .int z9]))]) hP hD [2] [0, 1] rfl rfl (by decide) (by decide) hk1 hFc hP1 hD1
                  generalize H1 = H at hP hS ⊢
                  have hP : va_P (dC, dI) vwCl [(mm, .inr (24, [.int 0, .ref stu, .ref cla, .ref pic, .ref act, .int 5, .int 50, .ref nts, .ref isn, .int 1600, .ref boa, .ref mas, .ref pai, .ref sol, .int 0, .ref bal, .ref leg])), (stu, .inr (5, [.int 0, .ref en.2.2.1, .int 0])), (q_39, .inr (23, [.int 0, .int c9, .int tone, .int cover, .int weight, .int lamp, .int hold, .int fading, .int yr, .int z9]))] H := hP
                  have hD : va_D A [(mm, .inr (24, [.int 0, .ref stu, .ref cla, .ref pic, .ref act, .int 5, .int 50, .ref nts, .ref isn, .int 1600, .ref boa, .ref mas, .ref pai, .ref sol, .int 0, .ref bal, .ref leg])), (stu, .inr (5, [.int 0, .ref en.2.2.1, .int 0])), (q_39, .inr (23, [.int 0, .int c9, .int tone, .int cover, .int weight, .int lamp, .int hold, .int fading, .int yr, .int z9]))] := hD
                  have hR : va_P (dC, dI) vwCl [] H := fun k q h => by simp at h
                  refine W.widen (k := 1) (n := 10) (Nat.le_of_ble_eq_true rfl) (Nat.le_of_ble_eq_true rfl) ?_
                  have hPc := (hP.app hR).sub (ws' := [(stu, .inr (5, [.int 0, .ref en.2.2.1, .int 0]))] ++ [(q_39, .inr (23, ([.int 0, .int c9, .int tone, .int cover, .int weight, .int lamp, .int hold, .int fading, .int yr, .int z9])))]) [1, 2] rfl
                  have hDc := (en_DD hD hDr hN0 hAb).sub (ws' := [(stu, .inr (5, [.int 0, .ref en.2.2.1, .int 0]))] ++ [(q_39, .inr (23, ([.int 0, .int c9, .int tone, .int cover, .int weight, .int lamp, .int hold, .int fading, .int yr, .int z9])))]) [1, 2] (by decide) rfl
                  have hKc := hK.sub (tys' := []) [] rfl
                  have hFc := va_free (wc := [(stu, .inr (5, [.int 0, .ref en.2.2.1, .int 0]))]) hD hS hA [1] rfl
                  refine va_callFi (va_runF (As := [.ref q_39]) (rest := []) (hK.1 5 _ rfl).2 ⟨hx, hb, hml, hown, hts⟩ (c_addo l dC dI b0 en H.size stu q_39 23 ([.int 0, .int c9, .int tone, .int cover, .int weight, .int lamp, .int hold, .int fading, .int yr, .int z9]) (RX17, TX17, 10) rfl (by decide +kernel)) (va_cwF 1 hts gX18_stuff_Jx4a65c_add_9ea2d_f96Jx4a65c rfl rfl rfl (hE.face ("java/util/ArrayList", ⟨"java/util/List", "add", "(Ljava/lang/Object;)Z"⟩, ⟨"java/util/ArrayList", "add", "(Ljava/lang/Object;)Z"⟩) (by decide +kernel)) (by decide +kernel) ⟨Nat.le_of_ble_eq_true rfl, Nat.le_of_ble_eq_true rfl⟩) ⟨cP.blind, va_recv hK hP (ci := 5) (q0 := 1) rfl rfl, cP.use (en_z hb0 hS) (hE.on hAb hS) hPc hKc hDc trivial⟩ rfl rfl hl.1 rfl (lv_room (Nat.le_of_ble_eq_true rfl)) dX18_stuff_163 ⟨Nat.le_of_ble_eq_true rfl, Nat.le_of_ble_eq_true rfl⟩) hS (fun q _ h => hFc q h) hFc (fun r_43 u_42 t H1 locs ht hvm hw hB hz1 hk1 hS => ?_)
                  obtain ⟨hP1, hK1, hD1, hF1⟩ := hB
                  rw [ht] at hP1
                  try rw [ht] at hF1
                  have hK1 := va_K.moved hvm.symm hK1
                  try dsimp only at hw
                  obtain ⟨hP, hD⟩ := va_join (wr := [(mm, .inr (24, [.int 0, .ref stu, .ref cla, .ref pic, .ref act, .int 5, .int 50, .ref nts, .ref isn, .int 1600, .ref boa, .ref mas, .ref pai, .ref sol, .int 0, .ref bal, .ref leg])), (q_39, .inr (23, [.int 0, .int c9, .int tone, .int cover, .int weight, .int lamp, .int hold, .int fading, .int yr, .int z9]))]) (w1 := [(stu, .inr (5, [.int 1, .ref u_42.1, .int 1])), (u_42.1, .inl (u_42.2.1, 10, .inr (.inr (.inr (.inr u_42.2.2)))))]) hP hD [1] [0, 2] rfl rfl (by decide) (by decide) hk1 hFc hP1 hD1
                  have hK := hK.app hK1
                  generalize H1 = H at hP hS ⊢
                  have hP : va_P (dC, dI) vwCl [(mm, .inr (24, [.int 0, .ref stu, .ref cla, .ref pic, .ref act, .int 5, .int 50, .ref nts, .ref isn, .int 1600, .ref boa, .ref mas, .ref pai, .ref sol, .int 0, .ref bal, .ref leg])), (q_39, .inr (23, [.int 0, .int c9, .int tone, .int cover, .int weight, .int lamp, .int hold, .int fading, .int yr, .int z9])), (stu, .inr (5, [.int 1, .ref u_42.1, .int 1])), (u_42.1, .inl (u_42.2.1, 10, .inr (.inr (.inr (.inr u_42.2.2)))))] H := hP
                  have hD : va_D A [(mm, .inr (24, [.int 0, .ref stu, .ref cla, .ref pic, .ref act, .int 5, .int 50, .ref nts, .ref isn, .int 1600, .ref boa, .ref mas, .ref pai, .ref sol, .int 0, .ref bal, .ref leg])), (q_39, .inr (23, [.int 0, .int c9, .int tone, .int cover, .int weight, .int lamp, .int hold, .int fading, .int yr, .int z9])), (stu, .inr (5, [.int 1, .ref u_42.1, .int 1])), (u_42.1, .inl (u_42.2.1, 10, .inr (.inr (.inr (.inr u_42.2.2)))))] := hD
                  have hR : va_P (dC, dI) vwCl [] H := fun k q h => by simp at h
                  refine W.widen (k := 2) (n := 20) (Nat.le_of_ble_eq_true rfl) (Nat.le_of_ble_eq_true rfl) ?_
                  subst r_43
                  refine lv_pop hx hb dX18_stuff_168 rfl ?_
                  refine lv_aload_n hx hb dX18_stuff_169 rfl (lv_at hl 1 rfl) ?_
                  refine va_get (D := (dC, dI)) (ci := 24) (v := .ref stu) (C := RX18) (T := TX18) (N := 17) hx hb hts (by decide +kernel) hown hK hP 0 rfl rfl 1 (by decide) (hts (.fieldLink RX18 10 "UnderpaintModel" "stuffs" "Ljava/util/List;") (by decide +kernel)) (fun _ h9 => h9) rfl dX18_stuff_170 ?_
                  have hPc := (hP.app hR).sub (ws' := [] ++ [(stu, .inr (5, [.int 1, .ref u_42.1, .int 1]))]) [2] rfl
                  have hDc := (en_DD hD hDr hN0 hAb).sub (ws' := [] ++ [(stu, .inr (5, [.int 1, .ref u_42.1, .int 1]))]) [2] (by decide) rfl
                  have hKc := hK.sub (tys' := []) [] rfl
                  have hFc := va_free (wc := []) hD hS hA [] rfl
                  refine va_callFi (va_runF (As := []) (rest := []) (hK.1 5 _ rfl).2 ⟨hx, hb, hml, hown, hts⟩ (c_Jx4a65c_size l dC dI b0 en H.size stu u_42.1 1 1) (va_cwF 0 hts gX18_stuff_Jx4a65c_size_8abf5_f74Jx4a65c rfl rfl rfl (hE.face ("java/util/ArrayList", ⟨"java/util/List", "size", "()I"⟩, ⟨"java/util/ArrayList", "size", "()I"⟩) (by decide +kernel)) (by decide +kernel) ⟨Nat.le_of_ble_eq_true rfl, Nat.le_of_ble_eq_true rfl⟩) ⟨cP.blind, va_recv hK hP (ci := 5) (q0 := 2) rfl rfl, cP.use (en_z hb0 hS) (hE.on hAb hS) hPc hKc hDc trivial⟩ rfl rfl hl.1 rfl (lv_room (Nat.le_of_ble_eq_true rfl)) dX18_stuff_173 ⟨Nat.le_of_ble_eq_true rfl, Nat.le_of_ble_eq_true rfl⟩) hS (fun q _ h => hFc q h) hFc (fun r_44 u t H1 locs ht hvm hw hB hz1 hk1 hS => ?_)
                  have hP1 : va_P (dC, dI) vwCl [] H1 := fun k q h => by simp at h
                  have hD1 : va_D (va_A [] H.size) [] := ⟨fun i j p q h => by simp at h, fun k q h => by simp at h⟩
                  try dsimp only at hw
                  obtain ⟨hP, hD⟩ := va_join (wr := [(mm, .inr (24, [.int 0, .ref stu, .ref cla, .ref pic, .ref act, .int 5, .int 50, .ref nts, .ref isn, .int 1600, .ref boa, .ref mas, .ref pai, .ref sol, .int 0, .ref bal, .ref leg])), (q_39, .inr (23, [.int 0, .int c9, .int tone, .int cover, .int weight, .int lamp, .int hold, .int fading, .int yr, .int z9])), (stu, .inr (5, [.int 1, .ref u_42.1, .int 1])), (u_42.1, .inl (u_42.2.1, 10, .inr (.inr (.inr (.inr u_42.2.2)))))]) (w1 := []) hP hD [] [0, 1, 2, 3] rfl rfl (by decide) (by decide) hk1 hFc hP1 hD1
                  generalize H1 = H at hP hS ⊢
                  have hP : va_P (dC, dI) vwCl [(mm, .inr (24, [.int 0, .ref stu, .ref cla, .ref pic, .ref act, .int 5, .int 50, .ref nts, .ref isn, .int 1600, .ref boa, .ref mas, .ref pai, .ref sol, .int 0, .ref bal, .ref leg])), (q_39, .inr (23, [.int 0, .int c9, .int tone, .int cover, .int weight, .int lamp, .int hold, .int fading, .int yr, .int z9])), (stu, .inr (5, [.int 1, .ref u_42.1, .int 1])), (u_42.1, .inl (u_42.2.1, 10, .inr (.inr (.inr (.inr u_42.2.2)))))] H := hP
                  have hD : va_D A [(mm, .inr (24, [.int 0, .ref stu, .ref cla, .ref pic, .ref act, .int 5, .int 50, .ref nts, .ref isn, .int 1600, .ref boa, .ref mas, .ref pai, .ref sol, .int 0, .ref bal, .ref leg])), (q_39, .inr (23, [.int 0, .int c9, .int tone, .int cover, .int weight, .int lamp, .int hold, .int fading, .int yr, .int z9])), (stu, .inr (5, [.int 1, .ref u_42.1, .int 1])), (u_42.1, .inl (u_42.2.1, 10, .inr (.inr (.inr (.inr u_42.2.2)))))] := hD
                  have hR : va_P (dC, dI) vwCl [] H := fun k q h => by simp at h
                  refine W.widen (k := 2) (n := 20) (Nat.le_of_ble_eq_true rfl) (Nat.le_of_ble_eq_true rfl) ?_
                  subst r_44
                  refine lv_iconst (v := 1) hx hb dX18_stuff_178 (by decide) ?_
                  refine lv_isub hx hb dX18_stuff_179 ?_
                  refine lv_topi (fun x_45 ex_45 => ?_)
                  obtain rfl : x_45 = 0 := ex_45.trans (by decide)
                  refine W.widen (k := 2) (n := 20) (Nat.le_of_ble_eq_true rfl) (Nat.le_of_ble_eq_true rfl) ?_
                  exact W.iret (v := 0) hx hb hr (fun t ht hW => ⟨⟨0, ⟨0, [.ref stu, .ref cla, .ref pic, .ref act, .int 5, .int 50, .ref nts, .ref isn, .int 1600, .ref boa, .ref mas, .ref pai, .ref sol, .int 0, .ref bal, .ref leg]⟩, rfl, (z_c_X18_stuff_154 c9 tone cover weight lamp hold fading yr (Int32.not_lt.mp c_2) (b_yes h_6 c_7) (b_yes h_11 c_12) (b_yes h_16 c_17) (b_yes h_21 c_22) (b_yes h_27 c_28) (b_yes h_31 c_32) (b_yes h_35 c_36)), cB.mk ht hW (hP.sub [0] rfl) (hK.sub [] rfl) (hD.sub [0] (by decide) rfl) (trivial)⟩, hS.F ht⟩) hS.2.2 dX18_stuff_180
                · skip
                  refine lv_aload_n hx hb dX18_stuff_102 rfl (lv_at hl 1 rfl) ?_
                  refine lv_iconst (v := 1) hx hb dX18_stuff_103 (by decide) ?_
                  have hPc := (hP.app hR).sub (ws' := [(mm, .inr (24, .int 0 :: ([.ref stu, .ref cla, .ref pic, .ref act, .int 5, .int 50, .ref nts, .ref isn, .int 1600, .ref boa, .ref mas, .ref pai, .ref sol, .int 0, .ref bal, .ref leg])))] ++ []) [0] rfl
                  have hDc := (en_DD hD hDr hN0 hAb).sub (ws' := [(mm, .inr (24, .int 0 :: ([.ref stu, .ref cla, .ref pic, .ref act, .int 5, .int 50, .ref nts, .ref isn, .int 1600, .ref boa, .ref mas, .ref pai, .ref sol, .int 0, .ref bal, .ref leg])))] ++ []) [0] (by decide) rfl
                  have hKc := hK.sub (tys' := []) [] rfl
                  have hFc := va_free (wc := [(mm, .inr (24, .int 0 :: ([.ref stu, .ref cla, .ref pic, .ref act, .int 5, .int 50, .ref nts, .ref isn, .int 1600, .ref boa, .ref mas, .ref pai, .ref sol, .int 0, .ref bal, .ref leg])))]) hD hS hA [0] rfl
                  refine va_calli (va_runV (As := [.int 1]) (rest := []) ⟨hx, hb, hml, hown, hts⟩ (c_X18_fails l dC dI b0 en H.size mm 0 1 ([.ref stu, .ref cla, .ref pic, .ref act, .int 5, .int 50, .ref nts, .ref isn, .int 1600, .ref boa, .ref mas, .ref pai, .ref sol, .int 0, .ref bal, .ref leg])) (cwV 1 hts gX18_stuff_X18_fails rfl rfl rfl (by decide +kernel) ⟨Nat.le_of_ble_eq_true rfl, Nat.le_of_ble_eq_true rfl⟩) ⟨cP.blind, va_recv hK hP (ci := 24) (q0 := 0) rfl rfl, cP.use (en_z hb0 hS) (hE.on hAb hS) hPc hKc hDc trivial⟩ rfl rfl hl.1 rfl (lv_room (Nat.le_of_ble_eq_true rfl)) dX18_stuff_104 ⟨Nat.le_of_ble_eq_true rfl, Nat.le_of_ble_eq_true rfl⟩) hS (fun q _ h => hFc q h) hFc (fun r_46 u t H1 locs ht hvm hw hB hz1 hk1 hS => ?_)
                  obtain ⟨hP1, hK1, hD1, hF1⟩ := hB
                  rw [ht] at hP1
                  try rw [ht] at hF1
                  have hK1 := va_K.moved hvm.symm hK1
                  try dsimp only at hw
                  obtain ⟨hP, hD⟩ := va_join (wr := [(stu, .inr (5, [.int 0, .ref en.2.2.1, .int 0]))]) (w1 := [(mm, .inr (24, [.int 1, .ref stu, .ref cla, .ref pic, .ref act, .int 5, .int 50, .ref nts, .ref isn, .int 1600, .ref boa, .ref mas, .ref pai, .ref sol, .int 0, .ref bal, .ref leg]))]) hP hD [0] [1] rfl rfl (by decide) (by decide) hk1 hFc hP1 hD1
                  generalize H1 = H at hP hS ⊢
                  have hP : va_P (dC, dI) vwCl [(stu, .inr (5, [.int 0, .ref en.2.2.1, .int 0])), (mm, .inr (24, [.int 1, .ref stu, .ref cla, .ref pic, .ref act, .int 5, .int 50, .ref nts, .ref isn, .int 1600, .ref boa, .ref mas, .ref pai, .ref sol, .int 0, .ref bal, .ref leg]))] H := hP
                  have hD : va_D A [(stu, .inr (5, [.int 0, .ref en.2.2.1, .int 0])), (mm, .inr (24, [.int 1, .ref stu, .ref cla, .ref pic, .ref act, .int 5, .int 50, .ref nts, .ref isn, .int 1600, .ref boa, .ref mas, .ref pai, .ref sol, .int 0, .ref bal, .ref leg]))] := hD
                  have hR : va_P (dC, dI) vwCl [] H := fun k q h => by simp at h
                  refine W.widen (k := 0) (n := 0) (Nat.le_of_ble_eq_true rfl) (Nat.le_of_ble_eq_true rfl) ?_
                  subst r_46
                  refine W.widen (k := 2) (n := 20) (Nat.le_of_ble_eq_true rfl) (Nat.le_of_ble_eq_true rfl) ?_
                  exact W.iret (v := 0) hx hb hr (fun t ht hW => ⟨⟨0, ⟨1, [.ref stu, .ref cla, .ref pic, .ref act, .int 5, .int 50, .ref nts, .ref isn, .int 1600, .ref boa, .ref mas, .ref pai, .ref sol, .int 0, .ref bal, .ref leg]⟩, rfl, (z_c_X18_stuff_155 c9 tone cover weight lamp hold fading yr (Int32.not_lt.mp c_2) (b_yes h_6 c_7) (b_yes h_11 c_12) (b_yes h_16 c_17) (b_yes h_21 c_22) (b_yes h_27 c_28) (b_yes h_31 c_32) (b_no h_35 c_36)), cB.mk ht hW (hP.sub [1] rfl) (hK.sub [] rfl) (hD.sub [1] (by decide) rfl) (trivial)⟩, hS.F ht⟩) hS.2.2 dX18_stuff_107
