theorem dX18_isStuff_0 : decode cX18_isStuff 0 = .ok (.iload_n 1, 1) := by decide +kernel
theorem dX18_isStuff_1 : decode cX18_isStuff 1 = .ok (.iconst 0, 1) := by decide +kernel
theorem dX18_isStuff_2 : decode cX18_isStuff 2 = .ok (.aload_n 0, 1) := by decide +kernel
theorem dX18_isStuff_3 : decode cX18_isStuff 3 = .ok (.getfield 10, 3) := by decide +kernel
set_option maxRecDepth 20000 in
theorem ggX18_isStuff_Jx4a65c_size_8abf5 : GoodIn wsX18_isStuff wsJx4a65c_size_8abf5 := goodIn_r _ [6, 7, 29, 30, 31] (by decide +kernel) (by decide +kernel)
set_option maxRecDepth 20000 in
theorem gX18_isStuff_Jx4a65c_size_8abf5_f74Jx4a65c : GoodIn wsX18_isStuff (va_wsF RX18 74 RJx4a65c ⟨"java/util/List", "size", "()I"⟩ yJx4a65c_size_8abf5 wsJx4a65c_size_8abf5) := goodIn_app (goodIn_of _ (by decide +kernel)) ggX18_isStuff_Jx4a65c_size_8abf5
theorem dX18_isStuff_6 : decode cX18_isStuff 6 = .ok (.invokeinterface 74 1, 5) := by decide +kernel
theorem dX18_isStuff_11 : decode cX18_isStuff 11 = .ok (.iconst 1, 1) := by decide +kernel
theorem dX18_isStuff_12 : decode cX18_isStuff 12 = .ok (.isub, 1) := by decide +kernel
set_option maxRecDepth 20000 in
theorem ggX18_isStuff_X18_in : GoodIn wsX18_isStuff wsX18_in := goodIn_r _ [11] (by decide +kernel) (by decide +kernel)
set_option maxRecDepth 20000 in
theorem gX18_isStuff_X18_in : GoodIn wsX18_isStuff (va_wsS RX18 70 yX18_in wsX18_in) := goodIn_app (goodIn_of _ (by decide +kernel)) ggX18_isStuff_X18_in
theorem dX18_isStuff_13 : decode cX18_isStuff 13 = .ok (.invokestatic 70, 3) := by decide +kernel
theorem dX18_isStuff_16 : decode cX18_isStuff 16 = .ok (.ireturn, 1) := by decide +kernel
theorem dX18_isSolvent_0 : decode cX18_isSolvent 0 = .ok (.iload_n 1, 1) := by decide +kernel
theorem dX18_isSolvent_1 : decode cX18_isSolvent 1 = .ok (.iconst 0, 1) := by decide +kernel
theorem dX18_isSolvent_2 : decode cX18_isSolvent 2 = .ok (.aload_n 0, 1) := by decide +kernel
theorem dX18_isSolvent_3 : decode cX18_isSolvent 3 = .ok (.getfield 58, 3) := by decide +kernel
set_option maxRecDepth 20000 in
theorem ggX18_isSolvent_Jx4a65c_size_8abf5 : GoodIn wsX18_isSolvent wsJx4a65c_size_8abf5 := goodIn_r _ [6, 7, 29, 30, 31] (by decide +kernel) (by decide +kernel)
set_option maxRecDepth 20000 in
theorem gX18_isSolvent_Jx4a65c_size_8abf5_f74Jx4a65c : GoodIn wsX18_isSolvent (va_wsF RX18 74 RJx4a65c ⟨"java/util/List", "size", "()I"⟩ yJx4a65c_size_8abf5 wsJx4a65c_size_8abf5) := goodIn_app (goodIn_of _ (by decide +kernel)) ggX18_isSolvent_Jx4a65c_size_8abf5
theorem dX18_isSolvent_6 : decode cX18_isSolvent 6 = .ok (.invokeinterface 74 1, 5) := by decide +kernel
theorem dX18_isSolvent_11 : decode cX18_isSolvent 11 = .ok (.iconst 1, 1) := by decide +kernel
theorem dX18_isSolvent_12 : decode cX18_isSolvent 12 = .ok (.isub, 1) := by decide +kernel
set_option maxRecDepth 20000 in
theorem ggX18_isSolvent_X18_in : GoodIn wsX18_isSolvent wsX18_in := goodIn_r _ [11] (by decide +kernel) (by decide +kernel)
set_option maxRecDepth 20000 in
theorem gX18_isSolvent_X18_in : GoodIn wsX18_isSolvent (va_wsS RX18 70 yX18_in wsX18_in) := goodIn_app (goodIn_of _ (by decide +kernel)) ggX18_isSolvent_X18_in
theorem dX18_isSolvent_13 : decode cX18_isSolvent 13 = .ok (.invokestatic 70, 3) := by decide +kernel
theorem dX18_isSolvent_16 : decode cX18_isSolvent 16 = .ok (.ireturn, 1) := by decide +kernel
theorem dX18_isScratch_0 : decode cX18_isScratch 0 = .ok (.iload_n 1, 1) := by decide +kernel
theorem dX18_isScratch_1 : decode cX18_isScratch 1 = .ok (.iconst 0, 1) := by decide +kernel
theorem dX18_isScratch_2 : decode cX18_isScratch 2 = .ok (.aload_n 0, 1) := by decide +kernel
theorem dX18_isScratch_3 : decode cX18_isScratch 3 = .ok (.getfield 25, 3) := by decide +kernel
theorem dX18_isScratch_6 : decode cX18_isScratch 6 = .ok (.getfield 256, 3) := by decide +kernel
set_option maxRecDepth 20000 in
theorem ggX18_isScratch_Jx4a65c_size_8abf5 : GoodIn wsX18_isScratch wsJx4a65c_size_8abf5 := goodIn_r _ [6, 7, 35, 36, 37] (by decide +kernel) (by decide +kernel)
set_option maxRecDepth 20000 in
theorem gX18_isScratch_Jx4a65c_size_8abf5_f74Jx4a65c : GoodIn wsX18_isScratch (va_wsF RX18 74 RJx4a65c ⟨"java/util/List", "size", "()I"⟩ yJx4a65c_size_8abf5 wsJx4a65c_size_8abf5) := goodIn_app (goodIn_of _ (by decide +kernel)) ggX18_isScratch_Jx4a65c_size_8abf5
theorem dX18_isScratch_9 : decode cX18_isScratch 9 = .ok (.invokeinterface 74 1, 5) := by decide +kernel
theorem dX18_isScratch_14 : decode cX18_isScratch 14 = .ok (.iconst 1, 1) := by decide +kernel
theorem dX18_isScratch_15 : decode cX18_isScratch 15 = .ok (.isub, 1) := by decide +kernel
set_option maxRecDepth 20000 in
theorem ggX18_isScratch_X18_in : GoodIn wsX18_isScratch wsX18_in := goodIn_r _ [11] (by decide +kernel) (by decide +kernel)
set_option maxRecDepth 20000 in
theorem gX18_isScratch_X18_in : GoodIn wsX18_isScratch (va_wsS RX18 70 yX18_in wsX18_in) := goodIn_app (goodIn_of _ (by decide +kernel)) ggX18_isScratch_X18_in
theorem dX18_isScratch_16 : decode cX18_isScratch 16 = .ok (.invokestatic 70, 3) := by decide +kernel
theorem dX18_isScratch_19 : decode cX18_isScratch 19 = .ok (.ireturn, 1) := by decide +kernel
theorem dX18_isRay_0 : decode cX18_isRay 0 = .ok (.ldc 177, 2) := by decide +kernel
theorem dX18_isRay_2 : decode cX18_isRay 2 = .ok (.iload_n 0, 1) := by decide +kernel
set_option maxRecDepth 20000 in
theorem ggX18_isRay_J0_indexOf_0f7a4 : GoodIn wsX18_isRay wsJ0_indexOf_0f7a4 := goodIn_r _ [5, 6, 7, 8, 4, 9, 10, 11, 12, 13, 14, 15, 16, 17, 18, 19, 20, 21, 22, 23, 24, 25, 26, 27, 28, 29, 30, 31, 32, 33, 34, 35, 36, 37, 38, 39, 40, 41, 42, 43, 44, 45, 46, 47, 48, 49, 50, 51, 52, 53, 54, 55, 56, 57, 58, 59, 60, 61, 62, 63, 64, 65, 66, 67, 68, 69, 70, 71, 72, 73, 74, 75, 76, 77, 78, 79, 80, 81, 82, 83, 84, 85, 86, 87, 88, 89, 90, 91, 92, 93] (by decide +kernel) (by decide +kernel)
set_option maxRecDepth 20000 in
theorem gX18_isRay_J0_indexOf_0f7a4 : GoodIn wsX18_isRay (wsV RX18 82 RJ0 yJ0_indexOf_0f7a4 wsJ0_indexOf_0f7a4) := goodIn_app (goodIn_of _ (by decide +kernel)) ggX18_isRay_J0_indexOf_0f7a4
theorem dX18_isRay_3 : decode cX18_isRay 3 = .ok (.invokevirtual 82, 3) := by decide +kernel
theorem dX18_isRay_6 : decode cX18_isRay 6 = .ok (.ifCond .lt 7, 3) := by decide +kernel
theorem dX18_isRay_13 : decode cX18_isRay 13 = .ok (.iconst 0, 1) := by decide +kernel
theorem dX18_isRay_14 : decode cX18_isRay 14 = .ok (.ireturn, 1) := by decide +kernel
theorem dX18_isRay_9 : decode cX18_isRay 9 = .ok (.iconst 1, 1) := by decide +kernel
theorem dX18_isRay_10 : decode cX18_isRay 10 = .ok (.goto 4, 3) := by decide +kernel
theorem dX18_clash_0 : decode cX18_clash 0 = .ok (.aload_n 0, 1) := by decide +kernel
theorem dX18_clash_1 : decode cX18_clash 1 = .ok (.iload_n 1, 1) := by decide +kernel
set_option maxRecDepth 20000 in
theorem ggX18_clash_X18_isStuff : GoodIn wsX18_clash wsX18_isStuff := goodIn_r _ [8, 9, 10, 11, 12, 13, 14, 15, 16, 17, 7, 18, 27, 28, 29, 30, 31, 32, 33, 34, 35, 36, 37, 38, 39, 40, 41, 42, 43, 44, 45, 46] (by decide +kernel) (by decide +kernel)
set_option maxRecDepth 20000 in
theorem gX18_clash_X18_isStuff : GoodIn wsX18_clash (wsV RX18 100 RX18 yX18_isStuff wsX18_isStuff) := goodIn_app (goodIn_of _ (by decide +kernel)) ggX18_clash_X18_isStuff
theorem dX18_clash_2 : decode cX18_clash 2 = .ok (.invokevirtual 100, 3) := by decide +kernel
theorem dX18_clash_5 : decode cX18_clash 5 = .ok (.ifCond .eq 11, 3) := by decide +kernel
theorem dX18_clash_16 : decode cX18_clash 16 = .ok (.aload_n 0, 1) := by decide +kernel
theorem dX18_clash_17 : decode cX18_clash 17 = .ok (.iconst 1, 1) := by decide +kernel
set_option maxRecDepth 20000 in
theorem ggX18_clash_X18_failsBoolean : GoodIn wsX18_clash wsX18_failsBoolean := goodIn_r _ [22, 2, 27, 28, 29, 30, 31, 32, 33, 34, 35, 36, 37, 38, 39, 40, 41, 42, 43] (by decide +kernel) (by decide +kernel)
set_option maxRecDepth 20000 in
theorem gX18_clash_X18_failsBoolean : GoodIn wsX18_clash (wsV RX18 104 RX18 yX18_failsBoolean wsX18_failsBoolean) := goodIn_app (goodIn_of _ (by decide +kernel)) ggX18_clash_X18_failsBoolean
theorem dX18_clash_18 : decode cX18_clash 18 = .ok (.invokevirtual 104, 3) := by decide +kernel
theorem dX18_clash_21 : decode cX18_clash 21 = .ok (.ireturn, 1) := by decide +kernel
theorem dX18_lay_0 : decode cX18_lay 0 = .ok (.aload_n 0, 1) := by decide +kernel
theorem dX18_lay_1 : decode cX18_lay 1 = .ok (.iconst 0, 1) := by decide +kernel
theorem dX18_lay_2 : decode cX18_lay 2 = .ok (.putfield 67, 3) := by decide +kernel
theorem dX18_lay_5 : decode cX18_lay 5 = .ok (.aload_n 0, 1) := by decide +kernel
theorem dX18_lay_6 : decode cX18_lay 6 = .ok (.iload_n 1, 1) := by decide +kernel
set_option maxRecDepth 20000 in
theorem ggX18_lay_X18_isStuff : GoodIn wsX18_lay wsX18_isStuff := goodIn_r _ [10, 11, 12, 13, 14, 15, 16, 17, 18, 19, 9, 20, 407, 408, 409, 410, 411, 412, 413, 414, 415, 416, 417, 418, 419, 420, 421, 422, 423, 426, 427, 428] (by decide +kernel) (by decide +kernel)
set_option maxRecDepth 20000 in
theorem gX18_lay_X18_isStuff : GoodIn wsX18_lay (wsV RX18 100 RX18 yX18_isStuff wsX18_isStuff) := goodIn_app (goodIn_of _ (by decide +kernel)) ggX18_lay_X18_isStuff
theorem dX18_lay_7 : decode cX18_lay 7 = .ok (.invokevirtual 100, 3) := by decide +kernel
theorem dX18_lay_10 : decode cX18_lay 10 = .ok (.ifCond .ne 9, 3) := by decide +kernel
theorem dX18_lay_13 : decode cX18_lay 13 = .ok (.aload_n 0, 1) := by decide +kernel
theorem dX18_lay_14 : decode cX18_lay 14 = .ok (.iconst 1, 1) := by decide +kernel
set_option maxRecDepth 20000 in
theorem ggX18_lay_X18_fails : GoodIn wsX18_lay wsX18_fails := goodIn_r _ [24, 1, 407, 408, 409, 410, 411, 412, 413, 414, 415, 416, 417, 418, 419, 420, 421, 422, 423] (by decide +kernel) (by decide +kernel)
set_option maxRecDepth 20000 in
theorem gX18_lay_X18_fails : GoodIn wsX18_lay (wsV RX18 88 RX18 yX18_fails wsX18_fails) := goodIn_app (goodIn_of _ (by decide +kernel)) ggX18_lay_X18_fails
theorem dX18_lay_15 : decode cX18_lay 15 = .ok (.invokevirtual 88, 3) := by decide +kernel
theorem dX18_lay_18 : decode cX18_lay 18 = .ok (.ireturn, 1) := by decide +kernel
theorem dX18_tested_0 : decode cX18_tested 0 = .ok (.aload_n 0, 1) := by decide +kernel
theorem dX18_tested_1 : decode cX18_tested 1 = .ok (.iconst 0, 1) := by decide +kernel
theorem dX18_tested_2 : decode cX18_tested 2 = .ok (.putfield 67, 3) := by decide +kernel
theorem dX18_tested_5 : decode cX18_tested 5 = .ok (.aload_n 0, 1) := by decide +kernel
theorem dX18_tested_6 : decode cX18_tested 6 = .ok (.iload_n 1, 1) := by decide +kernel
set_option maxRecDepth 20000 in
theorem ggX18_tested_X18_isSolvent : GoodIn wsX18_tested wsX18_isSolvent := goodIn_r _ [8, 2, 9, 10, 11, 12, 13, 14, 15, 16, 7, 17, 39, 40, 41, 42, 43, 44, 45, 46, 47, 48, 49, 50, 51, 52, 53, 54, 55, 56, 57, 58] (by decide +kernel) (by decide +kernel)
set_option maxRecDepth 20000 in
theorem gX18_tested_X18_isSolvent : GoodIn wsX18_tested (wsV RX18 270 RX18 yX18_isSolvent wsX18_isSolvent) := goodIn_app (goodIn_of _ (by decide +kernel)) ggX18_tested_X18_isSolvent
theorem dX18_tested_7 : decode cX18_tested 7 = .ok (.invokevirtual 270, 3) := by decide +kernel
theorem dX18_tested_10 : decode cX18_tested 10 = .ok (.ifCond .eq 21, 3) := by decide +kernel
theorem dX18_tested_31 : decode cX18_tested 31 = .ok (.aload_n 0, 1) := by decide +kernel
theorem dX18_tested_32 : decode cX18_tested 32 = .ok (.iconst 1, 1) := by decide +kernel
set_option maxRecDepth 20000 in
theorem ggX18_tested_X18_fails : GoodIn wsX18_tested wsX18_fails := goodIn_r _ [38, 1, 39, 40, 41, 42, 43, 44, 45, 46, 47, 48, 49, 50, 51, 52, 53, 54, 55] (by decide +kernel) (by decide +kernel)
set_option maxRecDepth 20000 in
theorem gX18_tested_X18_fails : GoodIn wsX18_tested (wsV RX18 88 RX18 yX18_fails wsX18_fails) := goodIn_app (goodIn_of _ (by decide +kernel)) ggX18_tested_X18_fails
theorem dX18_tested_33 : decode cX18_tested 33 = .ok (.invokevirtual 88, 3) := by decide +kernel
theorem dX18_tested_36 : decode cX18_tested 36 = .ok (.ireturn, 1) := by decide +kernel
theorem dX18_swab_0 : decode cX18_swab 0 = .ok (.aload_n 0, 1) := by decide +kernel
theorem dX18_swab_1 : decode cX18_swab 1 = .ok (.iconst 0, 1) := by decide +kernel
theorem dX18_swab_2 : decode cX18_swab 2 = .ok (.putfield 67, 3) := by decide +kernel
theorem dX18_swab_5 : decode cX18_swab 5 = .ok (.aload_n 0, 1) := by decide +kernel
theorem dX18_swab_6 : decode cX18_swab 6 = .ok (.iload_n 1, 1) := by decide +kernel
set_option maxRecDepth 20000 in
theorem ggX18_swab_X18_isSolvent : GoodIn wsX18_swab wsX18_isSolvent := goodIn_r _ [19, 2, 20, 21, 22, 23, 24, 25, 26, 27, 18, 28, 406, 407, 408, 409, 410, 411, 412, 413, 414, 415, 416, 417, 418, 419, 420, 421, 422, 431, 432, 433] (by decide +kernel) (by decide +kernel)
set_option maxRecDepth 20000 in
theorem gX18_swab_X18_isSolvent : GoodIn wsX18_swab (wsV RX18 270 RX18 yX18_isSolvent wsX18_isSolvent) := goodIn_app (goodIn_of _ (by decide +kernel)) ggX18_swab_X18_isSolvent
theorem dX18_swab_7 : decode cX18_swab 7 = .ok (.invokevirtual 270, 3) := by decide +kernel
theorem dX18_swab_10 : decode cX18_swab 10 = .ok (.ifCond .ne 9, 3) := by decide +kernel
theorem dX18_swab_13 : decode cX18_swab 13 = .ok (.aload_n 0, 1) := by decide +kernel
theorem dX18_swab_14 : decode cX18_swab 14 = .ok (.iconst 1, 1) := by decide +kernel
set_option maxRecDepth 20000 in
theorem ggX18_swab_X18_fails : GoodIn wsX18_swab wsX18_fails := goodIn_r _ [32, 1, 406, 407, 408, 409, 410, 411, 412, 413, 414, 415, 416, 417, 418, 419, 420, 421, 422] (by decide +kernel) (by decide +kernel)
set_option maxRecDepth 20000 in
theorem gX18_swab_X18_fails : GoodIn wsX18_swab (wsV RX18 88 RX18 yX18_fails wsX18_fails) := goodIn_app (goodIn_of _ (by decide +kernel)) ggX18_swab_X18_fails
theorem dX18_swab_15 : decode cX18_swab 15 = .ok (.invokevirtual 88, 3) := by decide +kernel
theorem dX18_swab_18 : decode cX18_swab 18 = .ok (.ireturn, 1) := by decide +kernel
theorem dX18_fill_0 : decode cX18_fill 0 = .ok (.aload_n 0, 1) := by decide +kernel
theorem dX18_fill_1 : decode cX18_fill 1 = .ok (.iconst 0, 1) := by decide +kernel
theorem dX18_fill_2 : decode cX18_fill 2 = .ok (.putfield 67, 3) := by decide +kernel
theorem dX18_fill_5 : decode cX18_fill 5 = .ok (.aload_n 0, 1) := by decide +kernel
theorem dX18_fill_6 : decode cX18_fill 6 = .ok (.iload_n 1, 1) := by decide +kernel
set_option maxRecDepth 20000 in
theorem ggX18_fill_X18_isStuff : GoodIn wsX18_fill wsX18_isStuff := goodIn_r _ [12, 2, 13, 14, 15, 16, 17, 18, 19, 20, 11, 21, 409, 410, 411, 412, 413, 414, 415, 416, 417, 418, 419, 420, 421, 422, 423, 424, 425, 438, 439, 440] (by decide +kernel) (by decide +kernel)
set_option maxRecDepth 20000 in
theorem gX18_fill_X18_isStuff : GoodIn wsX18_fill (wsV RX18 100 RX18 yX18_isStuff wsX18_isStuff) := goodIn_app (goodIn_of _ (by decide +kernel)) ggX18_fill_X18_isStuff
theorem dX18_fill_7 : decode cX18_fill 7 = .ok (.invokevirtual 100, 3) := by decide +kernel
theorem dX18_fill_10 : decode cX18_fill 10 = .ok (.ifCond .ne 9, 3) := by decide +kernel
theorem dX18_fill_13 : decode cX18_fill 13 = .ok (.aload_n 0, 1) := by decide +kernel
theorem dX18_fill_14 : decode cX18_fill 14 = .ok (.iconst 1, 1) := by decide +kernel
set_option maxRecDepth 20000 in
theorem ggX18_fill_X18_fails : GoodIn wsX18_fill wsX18_fails := goodIn_r _ [25, 1, 409, 410, 411, 412, 413, 414, 415, 416, 417, 418, 419, 420, 421, 422, 423, 424, 425] (by decide +kernel) (by decide +kernel)
set_option maxRecDepth 20000 in
theorem gX18_fill_X18_fails : GoodIn wsX18_fill (wsV RX18 88 RX18 yX18_fails wsX18_fails) := goodIn_app (goodIn_of _ (by decide +kernel)) ggX18_fill_X18_fails
theorem dX18_fill_15 : decode cX18_fill 15 = .ok (.invokevirtual 88, 3) := by decide +kernel
theorem dX18_fill_18 : decode cX18_fill 18 = .ok (.ireturn, 1) := by decide +kernel
theorem dX18_retouch_0 : decode cX18_retouch 0 = .ok (.aload_n 0, 1) := by decide +kernel
theorem dX18_retouch_1 : decode cX18_retouch 1 = .ok (.iconst 0, 1) := by decide +kernel
theorem dX18_retouch_2 : decode cX18_retouch 2 = .ok (.putfield 67, 3) := by decide +kernel
theorem dX18_retouch_5 : decode cX18_retouch 5 = .ok (.aload_n 0, 1) := by decide +kernel
theorem dX18_retouch_6 : decode cX18_retouch 6 = .ok (.iload_n 1, 1) := by decide +kernel
set_option maxRecDepth 20000 in
theorem ggX18_retouch_X18_isStuff : GoodIn wsX18_retouch wsX18_isStuff := goodIn_r _ [12, 2, 13, 14, 15, 16, 17, 18, 19, 20, 11, 21, 409, 410, 411, 412, 413, 414, 415, 416, 417, 418, 419, 420, 421, 422, 423, 424, 425, 438, 439, 440] (by decide +kernel) (by decide +kernel)
set_option maxRecDepth 20000 in
theorem gX18_retouch_X18_isStuff : GoodIn wsX18_retouch (wsV RX18 100 RX18 yX18_isStuff wsX18_isStuff) := goodIn_app (goodIn_of _ (by decide +kernel)) ggX18_retouch_X18_isStuff
theorem dX18_retouch_7 : decode cX18_retouch 7 = .ok (.invokevirtual 100, 3) := by decide +kernel
theorem dX18_retouch_10 : decode cX18_retouch 10 = .ok (.ifCond .ne 9, 3) := by decide +kernel
theorem dX18_retouch_13 : decode cX18_retouch 13 = .ok (.aload_n 0, 1) := by decide +kernel
theorem dX18_retouch_14 : decode cX18_retouch 14 = .ok (.iconst 1, 1) := by decide +kernel
set_option maxRecDepth 20000 in
theorem ggX18_retouch_X18_fails : GoodIn wsX18_retouch wsX18_fails := goodIn_r _ [25, 1, 409, 410, 411, 412, 413, 414, 415, 416, 417, 418, 419, 420, 421, 422, 423, 424, 425] (by decide +kernel) (by decide +kernel)
set_option maxRecDepth 20000 in
theorem gX18_retouch_X18_fails : GoodIn wsX18_retouch (wsV RX18 88 RX18 yX18_fails wsX18_fails) := goodIn_app (goodIn_of _ (by decide +kernel)) ggX18_retouch_X18_fails
theorem dX18_retouch_15 : decode cX18_retouch 15 = .ok (.invokevirtual 88, 3) := by decide +kernel
theorem dX18_retouch_18 : decode cX18_retouch 18 = .ok (.ireturn, 1) := by decide +kernel
theorem dX18_liesOver_0 : decode cX18_liesOver 0 = .ok (.aload_n 0, 1) := by decide +kernel
theorem dX18_liesOver_1 : decode cX18_liesOver 1 = .ok (.iload_n 1, 1) := by decide +kernel
set_option maxRecDepth 20000 in
theorem ggX18_liesOver_X18_isScratch : GoodIn wsX18_liesOver wsX18_isScratch := goodIn_r _ [8, 1, 9, 10, 11, 12, 13, 14, 15, 16, 7, 17, 39, 40, 41, 42, 43, 44, 45, 46, 47, 48, 49, 50, 51, 52, 53, 54, 55, 56, 57, 58, 59, 60, 61, 67, 68, 69] (by decide +kernel) (by decide +kernel)
set_option maxRecDepth 20000 in
theorem gX18_liesOver_X18_isScratch : GoodIn wsX18_liesOver (wsV RX18 259 RX18 yX18_isScratch wsX18_isScratch) := goodIn_app (goodIn_of _ (by decide +kernel)) ggX18_liesOver_X18_isScratch
theorem dX18_liesOver_2 : decode cX18_liesOver 2 = .ok (.invokevirtual 259, 3) := by decide +kernel
theorem dX18_liesOver_5 : decode cX18_liesOver 5 = .ok (.ifCond .ne 9, 3) := by decide +kernel
theorem dX18_liesOver_8 : decode cX18_liesOver 8 = .ok (.aload_n 0, 1) := by decide +kernel
theorem dX18_liesOver_9 : decode cX18_liesOver 9 = .ok (.iconst 1, 1) := by decide +kernel
set_option maxRecDepth 20000 in
theorem ggX18_liesOver_X18_failsBoolean : GoodIn wsX18_liesOver wsX18_failsBoolean := goodIn_r _ [21, 3, 39, 40, 41, 42, 43, 44, 45, 46, 47, 48, 49, 50, 51, 52, 53, 54, 55] (by decide +kernel) (by decide +kernel)
set_option maxRecDepth 20000 in
theorem gX18_liesOver_X18_failsBoolean : GoodIn wsX18_liesOver (wsV RX18 104 RX18 yX18_failsBoolean wsX18_failsBoolean) := goodIn_app (goodIn_of _ (by decide +kernel)) ggX18_liesOver_X18_failsBoolean
theorem dX18_liesOver_10 : decode cX18_liesOver 10 = .ok (.invokevirtual 104, 3) := by decide +kernel
theorem dX18_liesOver_13 : decode cX18_liesOver 13 = .ok (.ireturn, 1) := by decide +kernel
theorem dX18_later_0 : decode cX18_later 0 = .ok (.aload_n 0, 1) := by decide +kernel
theorem dX18_later_1 : decode cX18_later 1 = .ok (.iconst 0, 1) := by decide +kernel
theorem dX18_later_2 : decode cX18_later 2 = .ok (.putfield 67, 3) := by decide +kernel
theorem dX18_later_5 : decode cX18_later 5 = .ok (.aload_n 0, 1) := by decide +kernel
theorem dX18_later_6 : decode cX18_later 6 = .ok (.iload_n 1, 1) := by decide +kernel
set_option maxRecDepth 20000 in
theorem ggX18_later_X18_isScratch : GoodIn wsX18_later wsX18_isScratch := goodIn_r _ [12, 2, 13, 14, 15, 16, 17, 18, 19, 20, 11, 21, 43, 44, 45, 46, 47, 48, 49, 50, 51, 52, 53, 54, 55, 56, 57, 58, 59, 60, 61, 62, 63, 64, 65, 71, 72, 73] (by decide +kernel) (by decide +kernel)
set_option maxRecDepth 20000 in
theorem gX18_later_X18_isScratch : GoodIn wsX18_later (wsV RX18 259 RX18 yX18_isScratch wsX18_isScratch) := goodIn_app (goodIn_of _ (by decide +kernel)) ggX18_later_X18_isScratch
theorem dX18_later_7 : decode cX18_later 7 = .ok (.invokevirtual 259, 3) := by decide +kernel
theorem dX18_later_10 : decode cX18_later 10 = .ok (.ifCond .eq 11, 3) := by decide +kernel
theorem dX18_later_21 : decode cX18_later 21 = .ok (.aload_n 0, 1) := by decide +kernel
theorem dX18_later_22 : decode cX18_later 22 = .ok (.iconst 1, 1) := by decide +kernel
set_option maxRecDepth 20000 in
theorem ggX18_later_X18_fails : GoodIn wsX18_later wsX18_fails := goodIn_r _ [25, 1, 43, 44, 45, 46, 47, 48, 49, 50, 51, 52, 53, 54, 55, 56, 57, 58, 59] (by decide +kernel) (by decide +kernel)
set_option maxRecDepth 20000 in
theorem gX18_later_X18_fails : GoodIn wsX18_later (wsV RX18 88 RX18 yX18_fails wsX18_fails) := goodIn_app (goodIn_of _ (by decide +kernel)) ggX18_later_X18_fails
theorem dX18_later_23 : decode cX18_later 23 = .ok (.invokevirtual 88, 3) := by decide +kernel
theorem dX18_later_26 : decode cX18_later 26 = .ok (.ireturn, 1) := by decide +kernel
theorem dX18_takeBack_0 : decode cX18_takeBack 0 = .ok (.aload_n 0, 1) := by decide +kernel
theorem dX18_takeBack_1 : decode cX18_takeBack 1 = .ok (.iconst 0, 1) := by decide +kernel
theorem dX18_takeBack_2 : decode cX18_takeBack 2 = .ok (.putfield 67, 3) := by decide +kernel
theorem dX18_takeBack_5 : decode cX18_takeBack 5 = .ok (.iload_n 1, 1) := by decide +kernel
theorem dX18_takeBack_6 : decode cX18_takeBack 6 = .ok (.iconst 0, 1) := by decide +kernel
theorem dX18_takeBack_7 : decode cX18_takeBack 7 = .ok (.aload_n 0, 1) := by decide +kernel
theorem dX18_takeBack_8 : decode cX18_takeBack 8 = .ok (.getfield 29, 3) := by decide +kernel
set_option maxRecDepth 20000 in
theorem ggX18_takeBack_Jx4a65c_size_8abf5 : GoodIn wsX18_takeBack wsJx4a65c_size_8abf5 := goodIn_r _ [14, 15, 396, 397, 398] (by decide +kernel) (by decide +kernel)
set_option maxRecDepth 20000 in
theorem gX18_takeBack_Jx4a65c_size_8abf5_f74Jx4a65c : GoodIn wsX18_takeBack (va_wsF RX18 74 RJx4a65c ⟨"java/util/List", "size", "()I"⟩ yJx4a65c_size_8abf5 wsJx4a65c_size_8abf5) := goodIn_app (goodIn_of _ (by decide +kernel)) ggX18_takeBack_Jx4a65c_size_8abf5
theorem dX18_takeBack_11 : decode cX18_takeBack 11 = .ok (.invokeinterface 74 1, 5) := by decide +kernel
theorem dX18_takeBack_16 : decode cX18_takeBack 16 = .ok (.iconst 1, 1) := by decide +kernel
theorem dX18_takeBack_17 : decode cX18_takeBack 17 = .ok (.isub, 1) := by decide +kernel
set_option maxRecDepth 20000 in
theorem ggX18_takeBack_X18_in : GoodIn wsX18_takeBack wsX18_in := goodIn_r _ [19] (by decide +kernel) (by decide +kernel)
set_option maxRecDepth 20000 in
theorem gX18_takeBack_X18_in : GoodIn wsX18_takeBack (va_wsS RX18 70 yX18_in wsX18_in) := goodIn_app (goodIn_of _ (by decide +kernel)) ggX18_takeBack_X18_in
theorem dX18_takeBack_18 : decode cX18_takeBack 18 = .ok (.invokestatic 70, 3) := by decide +kernel
theorem dX18_takeBack_21 : decode cX18_takeBack 21 = .ok (.ifCond .ne 9, 3) := by decide +kernel
theorem dX18_takeBack_24 : decode cX18_takeBack 24 = .ok (.aload_n 0, 1) := by decide +kernel
theorem dX18_takeBack_25 : decode cX18_takeBack 25 = .ok (.iconst 1, 1) := by decide +kernel
set_option maxRecDepth 20000 in
theorem ggX18_takeBack_X18_fails : GoodIn wsX18_takeBack wsX18_fails := goodIn_r _ [23, 1, 373, 374, 375, 376, 377, 378, 379, 380, 381, 382, 383, 384, 385, 386, 387, 388, 389] (by decide +kernel) (by decide +kernel)
set_option maxRecDepth 20000 in
theorem gX18_takeBack_X18_fails : GoodIn wsX18_takeBack (wsV RX18 88 RX18 yX18_fails wsX18_fails) := goodIn_app (goodIn_of _ (by decide +kernel)) ggX18_takeBack_X18_fails
theorem dX18_takeBack_26 : decode cX18_takeBack 26 = .ok (.invokevirtual 88, 3) := by decide +kernel
theorem dX18_takeBack_29 : decode cX18_takeBack 29 = .ok (.ireturn, 1) := by decide +kernel
theorem dX18_actAt_0 : decode cX18_actAt 0 = .ok (.aload_n 0, 1) := by decide +kernel
theorem dX18_actAt_1 : decode cX18_actAt 1 = .ok (.iload_n 1, 1) := by decide +kernel
theorem dX18_actAt_2 : decode cX18_actAt 2 = .ok (.iconst 0, 1) := by decide +kernel
theorem dX18_actAt_3 : decode cX18_actAt 3 = .ok (.aload_n 0, 1) := by decide +kernel
theorem dX18_actAt_4 : decode cX18_actAt 4 = .ok (.getfield 29, 3) := by decide +kernel
set_option maxRecDepth 20000 in
theorem ggX18_actAt_Jx4a65c_size_8abf5 : GoodIn wsX18_actAt wsJx4a65c_size_8abf5 := goodIn_r _ [8, 9, 50, 51, 52] (by decide +kernel) (by decide +kernel)
set_option maxRecDepth 20000 in
theorem gX18_actAt_Jx4a65c_size_8abf5_f74Jx4a65c : GoodIn wsX18_actAt (va_wsF RX18 74 RJx4a65c ⟨"java/util/List", "size", "()I"⟩ yJx4a65c_size_8abf5 wsJx4a65c_size_8abf5) := goodIn_app (goodIn_of _ (by decide +kernel)) ggX18_actAt_Jx4a65c_size_8abf5
theorem dX18_actAt_7 : decode cX18_actAt 7 = .ok (.invokeinterface 74 1, 5) := by decide +kernel
theorem dX18_actAt_12 : decode cX18_actAt 12 = .ok (.iconst 1, 1) := by decide +kernel
theorem dX18_actAt_13 : decode cX18_actAt 13 = .ok (.isub, 1) := by decide +kernel
set_option maxRecDepth 20000 in
theorem ggX18_actAt_X18_in : GoodIn wsX18_actAt wsX18_in := goodIn_r _ [13] (by decide +kernel) (by decide +kernel)
set_option maxRecDepth 20000 in
theorem gX18_actAt_X18_in : GoodIn wsX18_actAt (va_wsS RX18 70 yX18_in wsX18_in) := goodIn_app (goodIn_of _ (by decide +kernel)) ggX18_actAt_X18_in
theorem dX18_actAt_14 : decode cX18_actAt 14 = .ok (.invokestatic 70, 3) := by decide +kernel
theorem dX18_actAt_17 : decode cX18_actAt 17 = .ok (.ifCond .eq 7, 3) := by decide +kernel
theorem dX18_actAt_24 : decode cX18_actAt 24 = .ok (.iconst 1, 1) := by decide +kernel
theorem dX18_actAt_25 : decode cX18_actAt 25 = .ok (.putfield 67, 3) := by decide +kernel
theorem dX18_actAt_28 : decode cX18_actAt 28 = .ok (.aload_n 0, 1) := by decide +kernel
theorem dX18_actAt_29 : decode cX18_actAt 29 = .ok (.getfield 67, 3) := by decide +kernel
theorem dX18_actAt_32 : decode cX18_actAt 32 = .ok (.ifCond .le 7, 3) := by decide +kernel
theorem dX18_actAt_35 : decode cX18_actAt 35 = .ok (.iconst 0, 1) := by decide +kernel
theorem dX18_actAt_36 : decode cX18_actAt 36 = .ok (.goto 19, 3) := by decide +kernel
theorem dX18_actAt_55 : decode cX18_actAt 55 = .ok (.ireturn, 1) := by decide +kernel
theorem dX18_acts_0 : decode cX18_acts 0 = .ok (.aload_n 0, 1) := by decide +kernel
theorem dX18_acts_1 : decode cX18_acts 1 = .ok (.iconst 0, 1) := by decide +kernel
theorem dX18_acts_2 : decode cX18_acts 2 = .ok (.putfield 67, 3) := by decide +kernel
theorem dX18_acts_5 : decode cX18_acts 5 = .ok (.aload_n 0, 1) := by decide +kernel
theorem dX18_acts_6 : decode cX18_acts 6 = .ok (.getfield 29, 3) := by decide +kernel
set_option maxRecDepth 20000 in
theorem ggX18_acts_Jx4a65c_size_8abf5 : GoodIn wsX18_acts wsJx4a65c_size_8abf5 := goodIn_r _ [7, 8, 26, 27, 28] (by decide +kernel) (by decide +kernel)
set_option maxRecDepth 20000 in
theorem gX18_acts_Jx4a65c_size_8abf5_f74Jx4a65c : GoodIn wsX18_acts (va_wsF RX18 74 RJx4a65c ⟨"java/util/List", "size", "()I"⟩ yJx4a65c_size_8abf5 wsJx4a65c_size_8abf5) := goodIn_app (goodIn_of _ (by decide +kernel)) ggX18_acts_Jx4a65c_size_8abf5
theorem dX18_acts_9 : decode cX18_acts 9 = .ok (.invokeinterface 74 1, 5) := by decide +kernel
theorem dX18_acts_14 : decode cX18_acts 14 = .ok (.ireturn, 1) := by decide +kernel
theorem dX18_scratches_0 : decode cX18_scratches 0 = .ok (.aload_n 0, 1) := by decide +kernel
theorem dX18_scratches_1 : decode cX18_scratches 1 = .ok (.iconst 0, 1) := by decide +kernel
theorem dX18_scratches_2 : decode cX18_scratches 2 = .ok (.putfield 67, 3) := by decide +kernel
theorem dX18_scratches_5 : decode cX18_scratches 5 = .ok (.aload_n 0, 1) := by decide +kernel
theorem dX18_scratches_6 : decode cX18_scratches 6 = .ok (.getfield 25, 3) := by decide +kernel
theorem dX18_scratches_9 : decode cX18_scratches 9 = .ok (.getfield 256, 3) := by decide +kernel
set_option maxRecDepth 20000 in
theorem ggX18_scratches_Jx4a65c_size_8abf5 : GoodIn wsX18_scratches wsJx4a65c_size_8abf5 := goodIn_r _ [7, 8, 32, 33, 34] (by decide +kernel) (by decide +kernel)
set_option maxRecDepth 20000 in
theorem gX18_scratches_Jx4a65c_size_8abf5_f74Jx4a65c : GoodIn wsX18_scratches (va_wsF RX18 74 RJx4a65c ⟨"java/util/List", "size", "()I"⟩ yJx4a65c_size_8abf5 wsJx4a65c_size_8abf5) := goodIn_app (goodIn_of _ (by decide +kernel)) ggX18_scratches_Jx4a65c_size_8abf5
theorem dX18_scratches_12 : decode cX18_scratches 12 = .ok (.invokeinterface 74 1, 5) := by decide +kernel
theorem dX18_scratches_17 : decode cX18_scratches 17 = .ok (.ireturn, 1) := by decide +kernel
theorem dX18_year_0 : decode cX18_year 0 = .ok (.aload_n 0, 1) := by decide +kernel
theorem dX18_year_1 : decode cX18_year 1 = .ok (.iconst 0, 1) := by decide +kernel
theorem dX18_year_2 : decode cX18_year 2 = .ok (.putfield 67, 3) := by decide +kernel
theorem dX18_year_5 : decode cX18_year 5 = .ok (.aload_n 0, 1) := by decide +kernel
theorem dX18_year_6 : decode cX18_year 6 = .ok (.getfield 25, 3) := by decide +kernel
theorem dX18_year_9 : decode cX18_year 9 = .ok (.getfield 176, 3) := by decide +kernel
theorem dX18_year_12 : decode cX18_year 12 = .ok (.ireturn, 1) := by decide +kernel
theorem dX18_lend_0 : decode cX18_lend 0 = .ok (.aload_n 0, 1) := by decide +kernel
theorem dX18_lend_1 : decode cX18_lend 1 = .ok (.iconst 0, 1) := by decide +kernel
theorem dX18_lend_2 : decode cX18_lend 2 = .ok (.putfield 67, 3) := by decide +kernel
theorem dX18_lend_5 : decode cX18_lend 5 = .ok (.aload_n 0, 1) := by decide +kernel
theorem dX18_lend_6 : decode cX18_lend 6 = .ok (.getfield 64, 3) := by decide +kernel
set_option maxRecDepth 20000 in
theorem ggX18_lend_Jx4a65c_isEmpty_aae02 : GoodIn wsX18_lend wsJx4a65c_isEmpty_aae02 := goodIn_r _ [9, 10, 383, 384, 385] (by decide +kernel) (by decide +kernel)
set_option maxRecDepth 20000 in
theorem gX18_lend_Jx4a65c_isEmpty_aae02_f107Jx4a65c : GoodIn wsX18_lend (va_wsF RX18 107 RJx4a65c ⟨"java/util/List", "isEmpty", "()Z"⟩ yJx4a65c_isEmpty_aae02 wsJx4a65c_isEmpty_aae02) := goodIn_app (goodIn_of _ (by decide +kernel)) ggX18_lend_Jx4a65c_isEmpty_aae02
theorem dX18_lend_9 : decode cX18_lend 9 = .ok (.invokeinterface 107 1, 5) := by decide +kernel
theorem dX18_lend_14 : decode cX18_lend 14 = .ok (.ifCond .eq 9, 3) := by decide +kernel
theorem dX18_lend_17 : decode cX18_lend 17 = .ok (.aload_n 0, 1) := by decide +kernel
theorem dX18_lend_18 : decode cX18_lend 18 = .ok (.iconst 1, 1) := by decide +kernel
set_option maxRecDepth 20000 in
theorem ggX18_lend_X18_fails : GoodIn wsX18_lend wsX18_fails := goodIn_r _ [15, 1, 366, 367, 368, 369, 370, 371, 372, 373, 374, 375, 376, 377, 378, 379, 380, 381, 382] (by decide +kernel) (by decide +kernel)
set_option maxRecDepth 20000 in
theorem gX18_lend_X18_fails : GoodIn wsX18_lend (wsV RX18 88 RX18 yX18_fails wsX18_fails) := goodIn_app (goodIn_of _ (by decide +kernel)) ggX18_lend_X18_fails
theorem dX18_lend_19 : decode cX18_lend 19 = .ok (.invokevirtual 88, 3) := by decide +kernel
theorem dX18_lend_22 : decode cX18_lend 22 = .ok (.ireturn, 1) := by decide +kernel
theorem dX18_boardAt_0 : decode cX18_boardAt 0 = .ok (.aload_n 0, 1) := by decide +kernel
theorem dX18_boardAt_1 : decode cX18_boardAt 1 = .ok (.iconst 0, 1) := by decide +kernel
theorem dX18_boardAt_2 : decode cX18_boardAt 2 = .ok (.putfield 67, 3) := by decide +kernel
theorem dX18_boardAt_5 : decode cX18_boardAt 5 = .ok (.aload_n 0, 1) := by decide +kernel
theorem dX18_boardAt_6 : decode cX18_boardAt 6 = .ok (.getfield 49, 3) := by decide +kernel
set_option maxRecDepth 20000 in
theorem ggX18_boardAt_Jx4a65c_isEmpty_aae02 : GoodIn wsX18_boardAt wsJx4a65c_isEmpty_aae02 := goodIn_r _ [17, 18, 68, 69, 70] (by decide +kernel) (by decide +kernel)
set_option maxRecDepth 20000 in
theorem gX18_boardAt_Jx4a65c_isEmpty_aae02_f107Jx4a65c : GoodIn wsX18_boardAt (va_wsF RX18 107 RJx4a65c ⟨"java/util/List", "isEmpty", "()Z"⟩ yJx4a65c_isEmpty_aae02 wsJx4a65c_isEmpty_aae02) := goodIn_app (goodIn_of _ (by decide +kernel)) ggX18_boardAt_Jx4a65c_isEmpty_aae02
theorem dX18_boardAt_9 : decode cX18_boardAt 9 = .ok (.invokeinterface 107 1, 5) := by decide +kernel
theorem dX18_boardAt_14 : decode cX18_boardAt 14 = .ok (.ifCond .ne 24, 3) := by decide +kernel
theorem dX18_boardAt_38 : decode cX18_boardAt 38 = .ok (.aload_n 0, 1) := by decide +kernel
theorem dX18_boardAt_39 : decode cX18_boardAt 39 = .ok (.iconst 1, 1) := by decide +kernel
set_option maxRecDepth 20000 in
theorem ggX18_boardAt_X18_fails : GoodIn wsX18_boardAt wsX18_fails := goodIn_r _ [27, 1, 51, 52, 53, 54, 55, 56, 57, 58, 59, 60, 61, 62, 63, 64, 65, 66, 67] (by decide +kernel) (by decide +kernel)
set_option maxRecDepth 20000 in
theorem gX18_boardAt_X18_fails : GoodIn wsX18_boardAt (wsV RX18 88 RX18 yX18_fails wsX18_fails) := goodIn_app (goodIn_of _ (by decide +kernel)) ggX18_boardAt_X18_fails
theorem dX18_boardAt_40 : decode cX18_boardAt 40 = .ok (.invokevirtual 88, 3) := by decide +kernel
theorem dX18_boardAt_43 : decode cX18_boardAt 43 = .ok (.ireturn, 1) := by decide +kernel
theorem dX18_likely_0 : decode cX18_likely 0 = .ok (.aload_n 0, 1) := by decide +kernel
theorem dX18_likely_1 : decode cX18_likely 1 = .ok (.iload_n 1, 1) := by decide +kernel
theorem dX18_likely_2 : decode cX18_likely 2 = .ok (.iload_n 2, 1) := by decide +kernel
theorem dX18_likely_3 : decode cX18_likely 3 = .ok (.iload_n 3, 1) := by decide +kernel
theorem dX18_likely_4 : decode cX18_likely 4 = .ok (.iload 4, 2) := by decide +kernel
set_option maxRecDepth 20000 in
theorem ggX18_likely_X18_areHabits : GoodIn wsX18_likely wsX18_areHabits := goodIn_r _ [7, 8, 9, 6, 10] (by decide +kernel) (by decide +kernel)
set_option maxRecDepth 20000 in
theorem gX18_likely_X18_areHabits : GoodIn wsX18_likely (va_wsS RX18 243 yX18_areHabits wsX18_areHabits) := goodIn_app (goodIn_of _ (by decide +kernel)) ggX18_likely_X18_areHabits
theorem dX18_likely_6 : decode cX18_likely 6 = .ok (.invokestatic 243, 3) := by decide +kernel
theorem dX18_likely_9 : decode cX18_likely 9 = .ok (.ifCond .ne 7, 3) := by decide +kernel
theorem dX18_likely_16 : decode cX18_likely 16 = .ok (.aload_n 0, 1) := by decide +kernel
theorem dX18_likely_17 : decode cX18_likely 17 = .ok (.getfield 55, 3) := by decide +kernel
set_option maxRecDepth 20000 in
theorem ggX18_likely_Jx4a65c_isEmpty_aae02 : GoodIn wsX18_likely wsJx4a65c_isEmpty_aae02 := goodIn_r _ [15, 16, 64, 65, 66] (by decide +kernel) (by decide +kernel)
set_option maxRecDepth 20000 in
theorem gX18_likely_Jx4a65c_isEmpty_aae02_f107Jx4a65c : GoodIn wsX18_likely (va_wsF RX18 107 RJx4a65c ⟨"java/util/List", "isEmpty", "()Z"⟩ yJx4a65c_isEmpty_aae02 wsJx4a65c_isEmpty_aae02) := goodIn_app (goodIn_of _ (by decide +kernel)) ggX18_likely_Jx4a65c_isEmpty_aae02
theorem dX18_likely_20 : decode cX18_likely 20 = .ok (.invokeinterface 107 1, 5) := by decide +kernel
theorem dX18_likely_25 : decode cX18_likely 25 = .ok (.ifCond .eq 7, 3) := by decide +kernel
theorem dX18_likely_28 : decode cX18_likely 28 = .ok (.iconst 2, 1) := by decide +kernel
theorem dX18_likely_29 : decode cX18_likely 29 = .ok (.goto 4, 3) := by decide +kernel
theorem dX18_likely_33 : decode cX18_likely 33 = .ok (.putfield 67, 3) := by decide +kernel
theorem dX18_likely_36 : decode cX18_likely 36 = .ok (.aload_n 0, 1) := by decide +kernel
theorem dX18_likely_37 : decode cX18_likely 37 = .ok (.getfield 67, 3) := by decide +kernel
theorem dX18_likely_40 : decode cX18_likely 40 = .ok (.ifCond .le 7, 3) := by decide +kernel
theorem dX18_likely_43 : decode cX18_likely 43 = .ok (.iconst 0, 1) := by decide +kernel
theorem dX18_likely_44 : decode cX18_likely 44 = .ok (.goto 28, 3) := by decide +kernel
theorem dX18_likely_72 : decode cX18_likely 72 = .ok (.ireturn, 1) := by decide +kernel
theorem dX18_likely_12 : decode cX18_likely 12 = .ok (.iconst 1, 1) := by decide +kernel
theorem dX18_likely_13 : decode cX18_likely 13 = .ok (.goto 20, 3) := by decide +kernel
theorem dX18_isSure_0 : decode cX18_isSure 0 = .ok (.aload_n 0, 1) := by decide +kernel
theorem dX18_isSure_1 : decode cX18_isSure 1 = .ok (.iload_n 1, 1) := by decide +kernel
theorem dX18_isSure_2 : decode cX18_isSure 2 = .ok (.iload_n 2, 1) := by decide +kernel
theorem dX18_isSure_3 : decode cX18_isSure 3 = .ok (.iload_n 3, 1) := by decide +kernel
theorem dX18_isSure_4 : decode cX18_isSure 4 = .ok (.iload 4, 2) := by decide +kernel
set_option maxRecDepth 20000 in
theorem ggX18_isSure_X18_areHabits : GoodIn wsX18_isSure wsX18_areHabits := goodIn_r _ [7, 8, 9, 6, 10] (by decide +kernel) (by decide +kernel)
set_option maxRecDepth 20000 in
theorem gX18_isSure_X18_areHabits : GoodIn wsX18_isSure (va_wsS RX18 243 yX18_areHabits wsX18_areHabits) := goodIn_app (goodIn_of _ (by decide +kernel)) ggX18_isSure_X18_areHabits
theorem dX18_isSure_6 : decode cX18_isSure 6 = .ok (.invokestatic 243, 3) := by decide +kernel
theorem dX18_isSure_9 : decode cX18_isSure 9 = .ok (.ifCond .ne 7, 3) := by decide +kernel
theorem dX18_isSure_16 : decode cX18_isSure 16 = .ok (.aload_n 0, 1) := by decide +kernel
theorem dX18_isSure_17 : decode cX18_isSure 17 = .ok (.getfield 55, 3) := by decide +kernel
set_option maxRecDepth 20000 in
theorem ggX18_isSure_Jx4a65c_isEmpty_aae02 : GoodIn wsX18_isSure wsJx4a65c_isEmpty_aae02 := goodIn_r _ [15, 16, 64, 65, 66] (by decide +kernel) (by decide +kernel)
set_option maxRecDepth 20000 in
theorem gX18_isSure_Jx4a65c_isEmpty_aae02_f107Jx4a65c : GoodIn wsX18_isSure (va_wsF RX18 107 RJx4a65c ⟨"java/util/List", "isEmpty", "()Z"⟩ yJx4a65c_isEmpty_aae02 wsJx4a65c_isEmpty_aae02) := goodIn_app (goodIn_of _ (by decide +kernel)) ggX18_isSure_Jx4a65c_isEmpty_aae02
theorem dX18_isSure_20 : decode cX18_isSure 20 = .ok (.invokeinterface 107 1, 5) := by decide +kernel
theorem dX18_isSure_25 : decode cX18_isSure 25 = .ok (.ifCond .eq 7, 3) := by decide +kernel
theorem dX18_isSure_28 : decode cX18_isSure 28 = .ok (.iconst 2, 1) := by decide +kernel
theorem dX18_isSure_29 : decode cX18_isSure 29 = .ok (.goto 4, 3) := by decide +kernel
theorem dX18_isSure_33 : decode cX18_isSure 33 = .ok (.putfield 67, 3) := by decide +kernel
theorem dX18_isSure_36 : decode cX18_isSure 36 = .ok (.aload_n 0, 1) := by decide +kernel
theorem dX18_isSure_37 : decode cX18_isSure 37 = .ok (.getfield 67, 3) := by decide +kernel
theorem dX18_isSure_40 : decode cX18_isSure 40 = .ok (.ifCond .le 5, 3) := by decide +kernel
theorem dX18_isSure_43 : decode cX18_isSure 43 = .ok (.iconst 0, 1) := by decide +kernel
theorem dX18_isSure_44 : decode cX18_isSure 44 = .ok (.ireturn, 1) := by decide +kernel
theorem dX18_isSure_12 : decode cX18_isSure 12 = .ok (.iconst 1, 1) := by decide +kernel
theorem dX18_isSure_13 : decode cX18_isSure 13 = .ok (.goto 20, 3) := by decide +kernel
theorem dX18_layers_0 : decode cX18_layers 0 = .ok (.aload_n 0, 1) := by decide +kernel
theorem dX18_layers_1 : decode cX18_layers 1 = .ok (.iconst 0, 1) := by decide +kernel
theorem dX18_layers_2 : decode cX18_layers 2 = .ok (.putfield 67, 3) := by decide +kernel
theorem dX18_layers_5 : decode cX18_layers 5 = .ok (.iload_n 1, 1) := by decide +kernel
theorem dX18_layers_6 : decode cX18_layers 6 = .ok (.iload_n 2, 1) := by decide +kernel
set_option maxRecDepth 20000 in
theorem ggX18_layers_X18_isPlace : GoodIn wsX18_layers wsX18_isPlace := goodIn_r _ [6, 7, 8, 5, 9] (by decide +kernel) (by decide +kernel)
set_option maxRecDepth 20000 in
theorem gX18_layers_X18_isPlace : GoodIn wsX18_layers (va_wsS RX18 124 yX18_isPlace wsX18_isPlace) := goodIn_app (goodIn_of _ (by decide +kernel)) ggX18_layers_X18_isPlace
theorem dX18_layers_7 : decode cX18_layers 7 = .ok (.invokestatic 124, 3) := by decide +kernel
theorem dX18_layers_10 : decode cX18_layers 10 = .ok (.ifCond .eq 28, 3) := by decide +kernel
theorem dX18_layers_38 : decode cX18_layers 38 = .ok (.aload_n 0, 1) := by decide +kernel
theorem dX18_layers_39 : decode cX18_layers 39 = .ok (.iconst 1, 1) := by decide +kernel
set_option maxRecDepth 20000 in
theorem ggX18_layers_X18_fails : GoodIn wsX18_layers wsX18_fails := goodIn_r _ [19, 1, 20, 21, 22, 23, 24, 25, 26, 27, 28, 29, 30, 31, 32, 33, 34, 35, 36] (by decide +kernel) (by decide +kernel)
set_option maxRecDepth 20000 in
theorem gX18_layers_X18_fails : GoodIn wsX18_layers (wsV RX18 88 RX18 yX18_fails wsX18_fails) := goodIn_app (goodIn_of _ (by decide +kernel)) ggX18_layers_X18_fails
theorem dX18_layers_40 : decode cX18_layers 40 = .ok (.invokevirtual 88, 3) := by decide +kernel
theorem dX18_layers_43 : decode cX18_layers 43 = .ok (.ireturn, 1) := by decide +kernel
theorem dX18_layers_13 : decode cX18_layers 13 = .ok (.aload_n 0, 1) := by decide +kernel
theorem dX18_layers_14 : decode cX18_layers 14 = .ok (.getfield 25, 3) := by decide +kernel
theorem dX18_layers_17 : decode cX18_layers 17 = .ok (.getfield 137, 3) := by decide +kernel
theorem dX18_layers_20 : decode cX18_layers 20 = .ok (.bipush 8, 2) := by decide +kernel
theorem dX18_layers_22 : decode cX18_layers 22 = .ok (.iload_n 2, 1) := by decide +kernel
theorem dX18_layers_23 : decode cX18_layers 23 = .ok (.imul, 1) := by decide +kernel
theorem dX18_layers_24 : decode cX18_layers 24 = .ok (.iload_n 1, 1) := by decide +kernel
theorem dX18_layers_25 : decode cX18_layers 25 = .ok (.iadd, 1) := by decide +kernel
theorem dX18_layers_26 : decode cX18_layers 26 = .ok (.aaload, 1) := by decide +kernel
theorem dX18_layers_27 : decode cX18_layers 27 = .ok (.getfield 141, 3) := by decide +kernel
set_option maxRecDepth 20000 in
theorem ggX18_layers_Jx4a65c_size_8abf5 : GoodIn wsX18_layers wsJx4a65c_size_8abf5 := goodIn_r _ [14, 15, 46, 47, 48] (by decide +kernel) (by decide +kernel)
set_option maxRecDepth 20000 in
theorem gX18_layers_Jx4a65c_size_8abf5_f74Jx4a65c : GoodIn wsX18_layers (va_wsF RX18 74 RJx4a65c ⟨"java/util/List", "size", "()I"⟩ yJx4a65c_size_8abf5 wsJx4a65c_size_8abf5) := goodIn_app (goodIn_of _ (by decide +kernel)) ggX18_layers_Jx4a65c_size_8abf5
theorem dX18_layers_30 : decode cX18_layers 30 = .ok (.invokeinterface 74 1, 5) := by decide +kernel
theorem dX18_layers_35 : decode cX18_layers 35 = .ok (.goto 8, 3) := by decide +kernel
theorem dX18_tired_0 : decode cX18_tired 0 = .ok (.aload_n 0, 1) := by decide +kernel
theorem dX18_tired_1 : decode cX18_tired 1 = .ok (.iconst 0, 1) := by decide +kernel
theorem dX18_tired_2 : decode cX18_tired 2 = .ok (.putfield 67, 3) := by decide +kernel
theorem dX18_tired_5 : decode cX18_tired 5 = .ok (.iload_n 1, 1) := by decide +kernel
theorem dX18_tired_6 : decode cX18_tired 6 = .ok (.iload_n 2, 1) := by decide +kernel
set_option maxRecDepth 20000 in
theorem ggX18_tired_X18_isPlace : GoodIn wsX18_tired wsX18_isPlace := goodIn_r _ [6, 7, 8, 5, 9] (by decide +kernel) (by decide +kernel)
set_option maxRecDepth 20000 in
theorem gX18_tired_X18_isPlace : GoodIn wsX18_tired (va_wsS RX18 124 yX18_isPlace wsX18_isPlace) := goodIn_app (goodIn_of _ (by decide +kernel)) ggX18_tired_X18_isPlace
theorem dX18_tired_7 : decode cX18_tired 7 = .ok (.invokestatic 124, 3) := by decide +kernel
theorem dX18_tired_10 : decode cX18_tired 10 = .ok (.ifCond .eq 23, 3) := by decide +kernel
theorem dX18_tired_33 : decode cX18_tired 33 = .ok (.aload_n 0, 1) := by decide +kernel
theorem dX18_tired_34 : decode cX18_tired 34 = .ok (.iconst 1, 1) := by decide +kernel
set_option maxRecDepth 20000 in
theorem ggX18_tired_X18_fails : GoodIn wsX18_tired wsX18_fails := goodIn_r _ [13, 1, 14, 15, 16, 17, 18, 19, 20, 21, 22, 23, 24, 25, 26, 27, 28, 29, 30] (by decide +kernel) (by decide +kernel)
set_option maxRecDepth 20000 in
theorem gX18_tired_X18_fails : GoodIn wsX18_tired (wsV RX18 88 RX18 yX18_fails wsX18_fails) := goodIn_app (goodIn_of _ (by decide +kernel)) ggX18_tired_X18_fails
theorem dX18_tired_35 : decode cX18_tired 35 = .ok (.invokevirtual 88, 3) := by decide +kernel
theorem dX18_tired_38 : decode cX18_tired 38 = .ok (.ireturn, 1) := by decide +kernel
theorem dX18_tired_13 : decode cX18_tired 13 = .ok (.aload_n 0, 1) := by decide +kernel
theorem dX18_tired_14 : decode cX18_tired 14 = .ok (.getfield 25, 3) := by decide +kernel
theorem dX18_tired_17 : decode cX18_tired 17 = .ok (.getfield 137, 3) := by decide +kernel
theorem dX18_tired_20 : decode cX18_tired 20 = .ok (.bipush 8, 2) := by decide +kernel
theorem dX18_tired_22 : decode cX18_tired 22 = .ok (.iload_n 2, 1) := by decide +kernel
theorem dX18_tired_23 : decode cX18_tired 23 = .ok (.imul, 1) := by decide +kernel
theorem dX18_tired_24 : decode cX18_tired 24 = .ok (.iload_n 1, 1) := by decide +kernel
theorem dX18_tired_25 : decode cX18_tired 25 = .ok (.iadd, 1) := by decide +kernel
theorem dX18_tired_26 : decode cX18_tired 26 = .ok (.aaload, 1) := by decide +kernel
theorem dX18_tired_27 : decode cX18_tired 27 = .ok (.getfield 173, 3) := by decide +kernel
theorem dX18_tired_30 : decode cX18_tired 30 = .ok (.goto 8, 3) := by decide +kernel

set_option maxHeartbeats 4000000 in
set_option maxRecDepth 100000 in
/-- isStuff: there is none -/
theorem c_X18_isStuff (l : Launch) (dC : Nat → ClassId) (dI : Nat → Nat → Nat) (b0 : Nat) (en : EnT) (sz : Nat) (mm stu cla pic act nts isn boa mas pai sol bal leg : Nat) (n : Int32) : Met l yX18_isStuff wsX18_isStuff ({ frames := 1, cells := 0, slots := 0, locals := 22 } : Room) (cP b0 en (dC, dI) [] [] [(mm, .inr (24, [.int 0, .ref stu, .ref cla, .ref pic, .ref act, .int 5, .int 50, .ref nts, .ref isn, .int 1600, .ref boa, .ref mas, .ref pai, .ref sol, .int 0, .ref bal, .ref leg])), (stu, .inr (5, [.int 0, .ref en.2.2.1, .int 0]))] sz (fun _ => True) [.ref mm, .int n]) (va_Qi (fun (r : Int32) (_ : Unit) => r = 0) (fun _ _ => True) (va_A [] sz)) 0 0 (va_A [] sz) := by
  refine Met.ofW (cc := cX18_isStuff) (maxL := 2) (ret := (some .boolean)) (by decide) rfl ?_
  intro p e s m args below meth c s₁ B hml hv
  obtain ⟨rfl, hsz, hb0, hE, hPP, hK, hDD, hF0⟩ := hv
  have hx := B.exec
  have hb := B.bytes
  have hr := B.returns
  have hts := atoms_spec (ws := wsX18_isStuff) B.pre
  have hown : s.vm.findClass RX18 = some m.cls := findClass_of_methodNamed B.named
  have hlocks := B.notSynchronized
  subst hsz
  have hN0 := en_N hPP hDD rfl
  have hP : va_P (dC, dI) vwCl [] s.heap := hPP.sub [] rfl
  have hR0 : va_P (dC, dI) vwCl [(mm, .inr (24, [.int 0, .ref stu, .ref cla, .ref pic, .ref act, .int 5, .int 50, .ref nts, .ref isn, .int 1600, .ref boa, .ref mas, .ref pai, .ref sol, .int 0, .ref bal, .ref leg])), (stu, .inr (5, [.int 0, .ref en.2.2.1, .int 0]))] s.heap := hPP.sub [0, 1] rfl
  have hD0 : va_D (fun q => b0 ≤ q) [] := hDD.sub [] (by decide) rfl
  have hDr : va_D (fun q => b0 ≤ q) [(mm, .inr (24, [.int 0, .ref stu, .ref cla, .ref pic, .ref act, .int 5, .int 50, .ref nts, .ref isn, .int 1600, .ref boa, .ref mas, .ref pai, .ref sol, .int 0, .ref bal, .ref leg])), (stu, .inr (5, [.int 0, .ref en.2.2.1, .int 0]))] := hDD.sub [0, 1] (by decide) rfl
  have hAb := en_A (sz := s.heap.size) hD0 hb0
  have hD := hD0.self (sz := s.heap.size)
  generalize hAe : va_A [] s.heap.size = A at hD hAb hN0 ⊢
  have hA : ∀ q : Nat, s.heap.size ≤ q → A q := fun q h => by rw [← hAe]; exact Or.inr h
  have hS : va_S A s.heap s.heap [] := va_S.rf
  have hR := hR0
  have hl := lv_entry [.ref mm, .int n] (n := 2) (Nat.le_of_ble_eq_true rfl)
  rw [lg_entry_eq]
  generalize (lg_sl [.ref mm, .int n] ++ List.replicate (2 - (lg_sl [.ref mm, .int n]).length) Slot.unset).toArray = ls at hl ⊢
  have hl : lv_has ls 2 [(0, .ref mm), (1, .int n)] := hl
  refine lv_iload_n hx hb dX18_isStuff_0 rfl (lv_at hl 1 rfl) ?_
  refine lv_iconst (v := 0) hx hb dX18_isStuff_1 (by decide) ?_
  refine lv_aload_n hx hb dX18_isStuff_2 rfl (lv_at hl 0 rfl) ?_
  refine va_get (D := (dC, dI)) (ci := 24) (v := .ref stu) (C := RX18) (T := TX18) (N := 17) hx hb hts (by decide +kernel) hown hK hR 0 rfl rfl 1 (by decide) (hts (.fieldLink RX18 10 "UnderpaintModel" "stuffs" "Ljava/util/List;") (by decide +kernel)) (fun _ h9 => h9) rfl dX18_isStuff_3 ?_
  have hPc := (hP.app hR).sub (ws' := [] ++ [(stu, .inr (5, [.int 0, .ref en.2.2.1, .int 0]))]) [1] rfl
  have hDc := (en_DD hD hDr hN0 hAb).sub (ws' := [] ++ [(stu, .inr (5, [.int 0, .ref en.2.2.1, .int 0]))]) [1] (by decide) rfl
  have hKc := hK.sub (tys' := []) [] rfl
  have hFc := va_free (wc := []) hD hS hA [] rfl
  refine va_callFi (va_runF (As := []) (rest := [.int 0, .int n]) (hK.1 5 _ rfl).2 ⟨hx, hb, hml, hown, hts⟩ (c_Jx4a65c_size l dC dI b0 en s.heap.size stu en.2.2.1 0 0) (va_cwF 0 hts gX18_isStuff_Jx4a65c_size_8abf5_f74Jx4a65c rfl rfl rfl (hE.face ("java/util/ArrayList", ⟨"java/util/List", "size", "()I"⟩, ⟨"java/util/ArrayList", "size", "()I"⟩) (by decide +kernel)) (by decide +kernel) ⟨Nat.le_of_ble_eq_true rfl, Nat.le_of_ble_eq_true rfl⟩) ⟨cP.blind, va_recv hK hR (ci := 5) (q0 := 1) rfl rfl, cP.use (en_z hb0 hS) (hE.on hAb hS) hPc hKc hDc trivial⟩ rfl rfl hl.1 rfl (lv_room (Nat.le_of_ble_eq_true rfl)) dX18_isStuff_6 ⟨Nat.le_of_ble_eq_true rfl, Nat.le_of_ble_eq_true rfl⟩) hS (fun q _ h => hFc q h) hFc (fun r_1 u t H1 locs ht hvm hw hB hz1 hk1 hS => ?_)
  have hP1 : va_P (dC, dI) vwCl [] H1 := fun k q h => by simp at h
  have hD1 : va_D (va_A [] s.heap.size) [] := ⟨fun i j p q h => by simp at h, fun k q h => by simp at h⟩
  try dsimp only at hw
  obtain ⟨hP, hD⟩ := va_join (wr := []) (w1 := []) hP hD [] [] rfl rfl (by decide) (by decide) hk1 hFc hP1 hD1
  generalize H1 = H at hP hS ⊢
  have hP : va_P (dC, dI) vwCl [] H := hP
  have hD : va_D A [] := hD
  have hR := en_R hR0 hN0 hS
  refine W.widen (k := 0) (n := 0) (Nat.le_of_ble_eq_true rfl) (Nat.le_of_ble_eq_true rfl) ?_
  subst r_1
  refine lv_iconst (v := 1) hx hb dX18_isStuff_11 (by decide) ?_
  refine lv_isub hx hb dX18_isStuff_12 ?_
  refine lv_topi (fun x_2 ex_2 => ?_)
  obtain rfl : x_2 = (-1) := ex_2.trans (by decide)
  have hPc := (hP.app hR).sub (ws' := [] ++ []) [] rfl
  have hDc := (en_DD hD hDr hN0 hAb).sub (ws' := [] ++ []) [] (by decide) rfl
  have hKc := hK.sub (tys' := []) [] rfl
  have hFc := va_free (wc := []) hD hS hA [] rfl
  refine va_calli (va_runS (As := [.int n, .int 0, .int (-1)]) (rest := []) ⟨hx, hb, hml, hown, hts⟩ (c_X18_in0 l dC dI b0 en H.size n) (va_cwS 3 hts gX18_isStuff_X18_in rfl rfl rfl (by decide +kernel) ⟨Nat.le_of_ble_eq_true rfl, Nat.le_of_ble_eq_true rfl⟩) ⟨cP.blind, cP.use (en_z hb0 hS) (hE.on hAb hS) hPc hKc hDc trivial⟩ rfl rfl hl.1 rfl (lv_room (Nat.le_of_ble_eq_true rfl)) dX18_isStuff_13 ⟨Nat.le_of_ble_eq_true rfl, Nat.le_of_ble_eq_true rfl⟩) hS (fun q _ h => hFc q h) hFc (fun r_3 u t H1 locs ht hvm hw hB hz1 hk1 hS => ?_)
  have hP1 : va_P (dC, dI) vwCl [] H1 := fun k q h => by simp at h
  have hD1 : va_D (va_A [] H.size) [] := ⟨fun i j p q h => by simp at h, fun k q h => by simp at h⟩
  try dsimp only at hw
  obtain ⟨hP, hD⟩ := va_join (wr := []) (w1 := []) hP hD [] [] rfl rfl (by decide) (by decide) hk1 hFc hP1 hD1
  generalize H1 = H at hP hS ⊢
  have hP : va_P (dC, dI) vwCl [] H := hP
  have hD : va_D A [] := hD
  have hR := en_R hR0 hN0 hS
  refine W.widen (k := 0) (n := 0) (Nat.le_of_ble_eq_true rfl) (Nat.le_of_ble_eq_true rfl) ?_
  subst r_3
  refine W.widen (k := 0) (n := 0) (Nat.le_of_ble_eq_true rfl) (Nat.le_of_ble_eq_true rfl) ?_
  exact W.zret (v := 0) hx hb hr (by first | rfl | decide +kernel) (fun t ht hW => ⟨⟨0, (), rfl, (z_c_X18_fails_14), trivial⟩, hS.F ht⟩) hS.2.2 dX18_isStuff_16

set_option maxHeartbeats 4000000 in
set_option maxRecDepth 100000 in
/-- isSolvent: there is none -/
theorem c_X18_isSolvent (l : Launch) (dC : Nat → ClassId) (dI : Nat → Nat → Nat) (b0 : Nat) (en : EnT) (sz : Nat) (mm stu cla pic act nts isn boa mas pai sol bal leg : Nat) (n : Int32) : Met l yX18_isSolvent wsX18_isSolvent ({ frames := 1, cells := 0, slots := 0, locals := 22 } : Room) (cP b0 en (dC, dI) [] [] [(mm, .inr (24, [.int 0, .ref stu, .ref cla, .ref pic, .ref act, .int 5, .int 50, .ref nts, .ref isn, .int 1600, .ref boa, .ref mas, .ref pai, .ref sol, .int 0, .ref bal, .ref leg])), (sol, .inr (5, [.int 0, .ref en.2.2.1, .int 0]))] sz (fun _ => True) [.ref mm, .int n]) (va_Qi (fun (r : Int32) (_ : Unit) => r = 0) (fun _ _ => True) (va_A [] sz)) 0 0 (va_A [] sz) := by
  refine Met.ofW (cc := cX18_isSolvent) (maxL := 2) (ret := (some .boolean)) (by decide) rfl ?_
  intro p e s m args below meth c s₁ B hml hv
  obtain ⟨rfl, hsz, hb0, hE, hPP, hK, hDD, hF0⟩ := hv
  have hx := B.exec
  have hb := B.bytes
  have hr := B.returns
  have hts := atoms_spec (ws := wsX18_isSolvent) B.pre
  have hown : s.vm.findClass RX18 = some m.cls := findClass_of_methodNamed B.named
  have hlocks := B.notSynchronized
  subst hsz
  have hN0 := en_N hPP hDD rfl
  have hP : va_P (dC, dI) vwCl [] s.heap := hPP.sub [] rfl
  have hR0 : va_P (dC, dI) vwCl [(mm, .inr (24, [.int 0, .ref stu, .ref cla, .ref pic, .ref act, .int 5, .int 50, .ref nts, .ref isn, .int 1600, .ref boa, .ref mas, .ref pai, .ref sol, .int 0, .ref bal, .ref leg])), (sol, .inr (5, [.int 0, .ref en.2.2.1, .int 0]))] s.heap := hPP.sub [0, 1] rfl
  have hD0 : va_D (fun q => b0 ≤ q) [] := hDD.sub [] (by decide) rfl
  have hDr : va_D (fun q => b0 ≤ q) [(mm, .inr (24, [.int 0, .ref stu, .ref cla, .ref pic, .ref act, .int 5, .int 50, .ref nts, .ref isn, .int 1600, .ref boa, .ref mas, .ref pai, .ref sol, .int 0, .ref bal, .ref leg])), (sol, .inr (5, [.int 0, .ref en.2.2.1, .int 0]))] := hDD.sub [0, 1] (by decide) rfl
  have hAb := en_A (sz := s.heap.size) hD0 hb0
  have hD := hD0.self (sz := s.heap.size)
  generalize hAe : va_A [] s.heap.size = A at hD hAb hN0 ⊢
  have hA : ∀ q : Nat, s.heap.size ≤ q → A q := fun q h => by rw [← hAe]; exact Or.inr h
  have hS : va_S A s.heap s.heap [] := va_S.rf
  have hR := hR0
  have hl := lv_entry [.ref mm, .int n] (n := 2) (Nat.le_of_ble_eq_true rfl)
  rw [lg_entry_eq]
  generalize (lg_sl [.ref mm, .int n] ++ List.replicate (2 - (lg_sl [.ref mm, .int n]).length) Slot.unset).toArray = ls at hl ⊢
  have hl : lv_has ls 2 [(0, .ref mm), (1, .int n)] := hl
  refine lv_iload_n hx hb dX18_isSolvent_0 rfl (lv_at hl 1 rfl) ?_
  refine lv_iconst (v := 0) hx hb dX18_isSolvent_1 (by decide) ?_
  refine lv_aload_n hx hb dX18_isSolvent_2 rfl (lv_at hl 0 rfl) ?_
  refine va_get (D := (dC, dI)) (ci := 24) (v := .ref sol) (C := RX18) (T := TX18) (N := 17) hx hb hts (by decide +kernel) hown hK hR 0 rfl rfl 13 (by decide) (hts (.fieldLink RX18 58 "UnderpaintModel" "solvents" "Ljava/util/List;") (by decide +kernel)) (fun _ h9 => h9) rfl dX18_isSolvent_3 ?_
  have hPc := (hP.app hR).sub (ws' := [] ++ [(sol, .inr (5, [.int 0, .ref en.2.2.1, .int 0]))]) [1] rfl
  have hDc := (en_DD hD hDr hN0 hAb).sub (ws' := [] ++ [(sol, .inr (5, [.int 0, .ref en.2.2.1, .int 0]))]) [1] (by decide) rfl
  have hKc := hK.sub (tys' := []) [] rfl
  have hFc := va_free (wc := []) hD hS hA [] rfl
  refine va_callFi (va_runF (As := []) (rest := [.int 0, .int n]) (hK.1 5 _ rfl).2 ⟨hx, hb, hml, hown, hts⟩ (c_Jx4a65c_size l dC dI b0 en s.heap.size sol en.2.2.1 0 0) (va_cwF 0 hts gX18_isSolvent_Jx4a65c_size_8abf5_f74Jx4a65c rfl rfl rfl (hE.face ("java/util/ArrayList", ⟨"java/util/List", "size", "()I"⟩, ⟨"java/util/ArrayList", "size", "()I"⟩) (by decide +kernel)) (by decide +kernel) ⟨Nat.le_of_ble_eq_true rfl, Nat.le_of_ble_eq_true rfl⟩) ⟨cP.blind, va_recv hK hR (ci := 5) (q0 := 1) rfl rfl, cP.use (en_z hb0 hS) (hE.on hAb hS) hPc hKc hDc trivial⟩ rfl rfl hl.1 rfl (lv_room (Nat.le_of_ble_eq_true rfl)) dX18_isSolvent_6 ⟨Nat.le_of_ble_eq_true rfl, Nat.le_of_ble_eq_true rfl⟩) hS (fun q _ h => hFc q h) hFc (fun r_1 u t H1 locs ht hvm hw hB hz1 hk1 hS => ?_)
  have hP1 : va_P (dC, dI) vwCl [] H1 := fun k q h => by simp at h
  have hD1 : va_D (va_A [] s.heap.size) [] := ⟨fun i j p q h => by simp at h, fun k q h => by simp at h⟩
  try dsimp only at hw
  obtain ⟨hP, hD⟩ := va_join (wr := []) (w1 := []) hP hD [] [] rfl rfl (by decide) (by decide) hk1 hFc hP1 hD1
  generalize H1 = H at hP hS ⊢
  have hP : va_P (dC, dI) vwCl [] H := hP
  have hD : va_D A [] := hD
  have hR := en_R hR0 hN0 hS
  refine W.widen (k := 0) (n := 0) (Nat.le_of_ble_eq_true rfl) (Nat.le_of_ble_eq_true rfl) ?_
  subst r_1
  refine lv_iconst (v := 1) hx hb dX18_isSolvent_11 (by decide) ?_
  refine lv_isub hx hb dX18_isSolvent_12 ?_
  refine lv_topi (fun x_2 ex_2 => ?_)
  obtain rfl : x_2 = (-1) := ex_2.trans (by decide)
  have hPc := (hP.app hR).sub (ws' := [] ++ []) [] rfl
  have hDc := (en_DD hD hDr hN0 hAb).sub (ws' := [] ++ []) [] (by decide) rfl
  have hKc := hK.sub (tys' := []) [] rfl
  have hFc := va_free (wc := []) hD hS hA [] rfl
  refine va_calli (va_runS (As := [.int n, .int 0, .int (-1)]) (rest := []) ⟨hx, hb, hml, hown, hts⟩ (c_X18_in0 l dC dI b0 en H.size n) (va_cwS 3 hts gX18_isSolvent_X18_in rfl rfl rfl (by decide +kernel) ⟨Nat.le_of_ble_eq_true rfl, Nat.le_of_ble_eq_true rfl⟩) ⟨cP.blind, cP.use (en_z hb0 hS) (hE.on hAb hS) hPc hKc hDc trivial⟩ rfl rfl hl.1 rfl (lv_room (Nat.le_of_ble_eq_true rfl)) dX18_isSolvent_13 ⟨Nat.le_of_ble_eq_true rfl, Nat.le_of_ble_eq_true rfl⟩) hS (fun q _ h => hFc q h) hFc (fun r_3 u t H1 locs ht hvm hw hB hz1 hk1 hS => ?_)
  have hP1 : va_P (dC, dI) vwCl [] H1 := fun k q h => by simp at h
  have hD1 : va_D (va_A [] H.size) [] := ⟨fun i j p q h => by simp at h, fun k q h => by simp at h⟩
  try dsimp only at hw
  obtain ⟨hP, hD⟩ := va_join (wr := []) (w1 := []) hP hD [] [] rfl rfl (by decide) (by decide) hk1 hFc hP1 hD1
  generalize H1 = H at hP hS ⊢
  have hP : va_P (dC, dI) vwCl [] H := hP
  have hD : va_D A [] := hD
  have hR := en_R hR0 hN0 hS
  refine W.widen (k := 0) (n := 0) (Nat.le_of_ble_eq_true rfl) (Nat.le_of_ble_eq_true rfl) ?_
  subst r_3
  refine W.widen (k := 0) (n := 0) (Nat.le_of_ble_eq_true rfl) (Nat.le_of_ble_eq_true rfl) ?_
  exact W.zret (v := 0) hx hb hr (by first | rfl | decide +kernel) (fun t ht hW => ⟨⟨0, (), rfl, (z_c_X18_fails_14), trivial⟩, hS.F ht⟩) hS.2.2 dX18_isSolvent_16

set_option maxHeartbeats 4000000 in
set_option maxRecDepth 100000 in
/-- isScratch: there is none -/
theorem c_X18_isScratch (l : Launch) (dC : Nat → ClassId) (dI : Nat → Nat → Nat) (b0 : Nat) (en : EnT) (sz : Nat) (mm stu cla pic act nts isn boa mas pai sol bal leg : Nat) (ap scr : Nat) (n : Int32) : Met l yX18_isScratch wsX18_isScratch ({ frames := 1, cells := 0, slots := 0, locals := 22 } : Room) (cP b0 en (dC, dI) [] [] [(mm, .inr (24, [.int 0, .ref stu, .ref cla, .ref pic, .ref act, .int 5, .int 50, .ref nts, .ref isn, .int 1600, .ref boa, .ref mas, .ref pai, .ref sol, .int 0, .ref bal, .ref leg])), (pic, .inr (20, [.ref ap, .ref scr, .int 1600, .int 0, .int 0, .ref mm])), (scr, .inr (5, [.int 0, .ref en.2.2.1, .int 0]))] sz (fun _ => True) [.ref mm, .int n]) (va_Qi (fun (r : Int32) (_ : Unit) => r = 0) (fun _ _ => True) (va_A [] sz)) 0 0 (va_A [] sz) := by
  refine Met.ofW (cc := cX18_isScratch) (maxL := 2) (ret := (some .boolean)) (by decide) rfl ?_
  intro p e s m args below meth c s₁ B hml hv
  obtain ⟨rfl, hsz, hb0, hE, hPP, hK, hDD, hF0⟩ := hv
  have hx := B.exec
  have hb := B.bytes
  have hr := B.returns
  have hts := atoms_spec (ws := wsX18_isScratch) B.pre
  have hown : s.vm.findClass RX18 = some m.cls := findClass_of_methodNamed B.named
  have hlocks := B.notSynchronized
  subst hsz
  have hN0 := en_N hPP hDD rfl
  have hP : va_P (dC, dI) vwCl [] s.heap := hPP.sub [] rfl
  have hR0 : va_P (dC, dI) vwCl [(mm, .inr (24, [.int 0, .ref stu, .ref cla, .ref pic, .ref act, .int 5, .int 50, .ref nts, .ref isn, .int 1600, .ref boa, .ref mas, .ref pai, .ref sol, .int 0, .ref bal, .ref leg])), (pic, .inr (20, [.ref ap, .ref scr, .int 1600, .int 0, .int 0, .ref mm])), (scr, .inr (5, [.int 0, .ref en.2.2.1, .int 0]))] s.heap := hPP.sub [0, 1, 2] rfl
  have hD0 : va_D (fun q => b0 ≤ q) [] := hDD.sub [] (by decide) rfl
  have hDr : va_D (fun q => b0 ≤ q) [(mm, .inr (24, [.int 0, .ref stu, .ref cla, .ref pic, .ref act, .int 5, .int 50, .ref nts, .ref isn, .int 1600, .ref boa, .ref mas, .ref pai, .ref sol, .int 0, .ref bal, .ref leg])), (pic, .inr (20, [.ref ap, .ref scr, .int 1600, .int 0, .int 0, .ref mm])), (scr, .inr (5, [.int 0, .ref en.2.2.1, .int 0]))] := hDD.sub [0, 1, 2] (by decide) rfl
  have hAb := en_A (sz := s.heap.size) hD0 hb0
  have hD := hD0.self (sz := s.heap.size)
  generalize hAe : va_A [] s.heap.size = A at hD hAb hN0 ⊢
  have hA : ∀ q : Nat, s.heap.size ≤ q → A q := fun q h => by rw [← hAe]; exact Or.inr h
  have hS : va_S A s.heap s.heap [] := va_S.rf
  have hR := hR0
  have hl := lv_entry [.ref mm, .int n] (n := 2) (Nat.le_of_ble_eq_true rfl)
  rw [lg_entry_eq]
  generalize (lg_sl [.ref mm, .int n] ++ List.replicate (2 - (lg_sl [.ref mm, .int n]).length) Slot.unset).toArray = ls at hl ⊢
  have hl : lv_has ls 2 [(0, .ref mm), (1, .int n)] := hl
  refine lv_iload_n hx hb dX18_isScratch_0 rfl (lv_at hl 1 rfl) ?_
  refine lv_iconst (v := 0) hx hb dX18_isScratch_1 (by decide) ?_
  refine lv_aload_n hx hb dX18_isScratch_2 rfl (lv_at hl 0 rfl) ?_
  refine va_get (D := (dC, dI)) (ci := 24) (v := .ref pic) (C := RX18) (T := TX18) (N := 17) hx hb hts (by decide +kernel) hown hK hR 0 rfl rfl 3 (by decide) (hts (.fieldLink RX18 25 "UnderpaintModel" "picture" "LUnderpaintModel$Picture;") (by decide +kernel)) (fun _ h9 => h9) rfl dX18_isScratch_3 ?_
  refine va_getN (D := (dC, dI)) (ci := 20) (v := .ref scr) (C := RX14) (T := TX14) (N := 6) hx hb hts (by decide +kernel) hown hK hR 1 rfl rfl 1 (by decide) (va_Nw.use rfl (hE.nf ("UnderpaintModel", 256, "UnderpaintModel$Picture", "scratches", "Ljava/util/List;", "UnderpaintModel") (by decide +kernel))) (fun _ h9 => h9) rfl dX18_isScratch_6 ?_
  have hPc := (hP.app hR).sub (ws' := [] ++ [(scr, .inr (5, [.int 0, .ref en.2.2.1, .int 0]))]) [2] rfl
  have hDc := (en_DD hD hDr hN0 hAb).sub (ws' := [] ++ [(scr, .inr (5, [.int 0, .ref en.2.2.1, .int 0]))]) [2] (by decide) rfl
  have hKc := hK.sub (tys' := []) [] rfl
  have hFc := va_free (wc := []) hD hS hA [] rfl
  refine va_callFi (va_runF (As := []) (rest := [.int 0, .int n]) (hK.1 5 _ rfl).2 ⟨hx, hb, hml, hown, hts⟩ (c_Jx4a65c_size l dC dI b0 en s.heap.size scr en.2.2.1 0 0) (va_cwF 0 hts gX18_isScratch_Jx4a65c_size_8abf5_f74Jx4a65c rfl rfl rfl (hE.face ("java/util/ArrayList", ⟨"java/util/List", "size", "()I"⟩, ⟨"java/util/ArrayList", "size", "()I"⟩) (by decide +kernel)) (by decide +kernel) ⟨Nat.le_of_ble_eq_true rfl, Nat.le_of_ble_eq_true rfl⟩) ⟨cP.blind, va_recv hK hR (ci := 5) (q0 := 2) rfl rfl, cP.use (en_z hb0 hS) (hE.on hAb hS) hPc hKc hDc trivial⟩ rfl rfl hl.1 rfl (lv_room (Nat.le_of_ble_eq_true rfl)) dX18_isScratch_9 ⟨Nat.le_of_ble_eq_true rfl, Nat.le_of_ble_eq_true rfl⟩) hS (fun q _ h => hFc q h) hFc (fun r_1 u t H1 locs ht hvm hw hB hz1 hk1 hS => ?_)
  have hP1 : va_P (dC, dI) vwCl [] H1 := fun k q h => by simp at h
  have hD1 : va_D (va_A [] s.heap.size) [] := ⟨fun i j p q h => by simp at h, fun k q h => by simp at h⟩
  try dsimp only at hw
  obtain ⟨hP, hD⟩ := va_join (wr := []) (w1 := []) hP hD [] [] rfl rfl (by decide) (by decide) hk1 hFc hP1 hD1
  generalize H1 = H at hP hS ⊢
  have hP : va_P (dC, dI) vwCl [] H := hP
  have hD : va_D A [] := hD
  have hR := en_R hR0 hN0 hS
  refine W.widen (k := 0) (n := 0) (Nat.le_of_ble_eq_true rfl) (Nat.le_of_ble_eq_true rfl) ?_
  subst r_1
  refine lv_iconst (v := 1) hx hb dX18_isScratch_14 (by decide) ?_
  refine lv_isub hx hb dX18_isScratch_15 ?_
  refine lv_topi (fun x_2 ex_2 => ?_)
  obtain rfl : x_2 = (-1) := ex_2.trans (by decide)
  have hPc := (hP.app hR).sub (ws' := [] ++ []) [] rfl
  have hDc := (en_DD hD hDr hN0 hAb).sub (ws' := [] ++ []) [] (by decide) rfl
  have hKc := hK.sub (tys' := []) [] rfl
  have hFc := va_free (wc := []) hD hS hA [] rfl
  refine va_calli (va_runS (As := [.int n, .int 0, .int (-1)]) (rest := []) ⟨hx, hb, hml, hown, hts⟩ (c_X18_in0 l dC dI b0 en H.size n) (va_cwS 3 hts gX18_isScratch_X18_in rfl rfl rfl (by decide +kernel) ⟨Nat.le_of_ble_eq_true rfl, Nat.le_of_ble_eq_true rfl⟩) ⟨cP.blind, cP.use (en_z hb0 hS) (hE.on hAb hS) hPc hKc hDc trivial⟩ rfl rfl hl.1 rfl (lv_room (Nat.le_of_ble_eq_true rfl)) dX18_isScratch_16 ⟨Nat.le_of_ble_eq_true rfl, Nat.le_of_ble_eq_true rfl⟩) hS (fun q _ h => hFc q h) hFc (fun r_3 u t H1 locs ht hvm hw hB hz1 hk1 hS => ?_)
  have hP1 : va_P (dC, dI) vwCl [] H1 := fun k q h => by simp at h
  have hD1 : va_D (va_A [] H.size) [] := ⟨fun i j p q h => by simp at h, fun k q h => by simp at h⟩
  try dsimp only at hw
  obtain ⟨hP, hD⟩ := va_join (wr := []) (w1 := []) hP hD [] [] rfl rfl (by decide) (by decide) hk1 hFc hP1 hD1
  generalize H1 = H at hP hS ⊢
  have hP : va_P (dC, dI) vwCl [] H := hP
  have hD : va_D A [] := hD
  have hR := en_R hR0 hN0 hS
  refine W.widen (k := 0) (n := 0) (Nat.le_of_ble_eq_true rfl) (Nat.le_of_ble_eq_true rfl) ?_
  subst r_3
  refine W.widen (k := 0) (n := 0) (Nat.le_of_ble_eq_true rfl) (Nat.le_of_ble_eq_true rfl) ?_
  exact W.zret (v := 0) hx hb hr (by first | rfl | decide +kernel) (fun t ht hW => ⟨⟨0, (), rfl, (z_c_X18_fails_14), trivial⟩, hS.F ht⟩) hS.2.2 dX18_isScratch_19
theorem z_c_X18_isRay_25   : 1 < 6 := by grind
theorem z_c_X18_isRay_26 (c9 : Int32) (a_0 : (ixL 1 c9) < 0) : (0 : Int32) = if 0 ≤ ixL 1 c9 then 1 else 0 := by grind
theorem z_c_X18_isRay_27 (c9 : Int32) (a_0 : ¬ (ixL 1 c9) < 0) : (1 : Int32) = if 0 ≤ ixL 1 c9 then 1 else 0 := by grind
set_option maxHeartbeats 4000000 in
set_option maxRecDepth 100000 in
/-- isRay -/
theorem c_X18_isRay (l : Launch) (dC : Nat → ClassId) (dI : Nat → Nat → Nat) (b0 : Nat) (en : EnT) (sz : Nat) (c9 : Int32) : Met l yX18_isRay wsX18_isRay ({ frames := 4, cells := 0, slots := 0, locals := 131 } : Room) (cP b0 en (dC, dI) [] [] [] sz (fun _ => True) [.int c9]) (va_Qi (fun (r : Int32) (_ : Unit) => r = if 0 ≤ ixL 1 c9 then 1 else 0) (fun _ _ => True) (va_A [] sz)) 0 0 (va_A [] sz) := by
  refine Met.ofW (cc := cX18_isRay) (maxL := 1) (ret := (some .boolean)) (by decide) rfl ?_
  intro p e s m args below meth c s₁ B hml hv
  obtain ⟨rfl, hsz, hb0, hE, hPP, hK, hDD, hF0⟩ := hv
  have hx := B.exec
  have hb := B.bytes
  have hr := B.returns
  have hts := atoms_spec (ws := wsX18_isRay) B.pre
  have hown : s.vm.findClass RX18 = some m.cls := findClass_of_methodNamed B.named
  have hlocks := B.notSynchronized
  subst hsz
  have hN0 := en_N hPP hDD rfl
  have hP : va_P (dC, dI) vwCl [] s.heap := hPP.sub [] rfl
  have hR0 : va_P (dC, dI) vwCl [] s.heap := hPP.sub [] rfl
  have hD0 : va_D (fun q => b0 ≤ q) [] := hDD.sub [] (by decide) rfl
  have hDr : va_D (fun q => b0 ≤ q) [] := hDD.sub [] (by decide) rfl
  have hAb := en_A (sz := s.heap.size) hD0 hb0
  have hD := hD0.self (sz := s.heap.size)
  generalize hAe : va_A [] s.heap.size = A at hD hAb hN0 ⊢
  have hA : ∀ q : Nat, s.heap.size ≤ q → A q := fun q h => by rw [← hAe]; exact Or.inr h
  have hS : va_S A s.heap s.heap [] := va_S.rf
  have hR := hR0
  have hl := lv_entry [.int c9] (n := 1) (Nat.le_of_ble_eq_true rfl)
  rw [lg_entry_eq]
  generalize (lg_sl [.int c9] ++ List.replicate (1 - (lg_sl [.int c9]).length) Slot.unset).toArray = ls at hl ⊢
  have hl : lv_has ls 1 [(0, .int c9)] := hl
  refine va_ldcS hx hb hown (hE.ldc (1, "UnderpaintModel", 177, "pwhlr") (by decide +kernel)) dX18_isRay_0 ?_
  refine lv_iload_n hx hb dX18_isRay_2 rfl (lv_at hl 0 rfl) ?_
  have hPc := (hP.app hR).sub (ws' := [] ++ []) [] rfl
  have hDc := (en_DD hD hDr hN0 hAb).sub (ws' := [] ++ []) [] (by decide) rfl
  have hKc := hK.sub (tys' := []) [] rfl
  have hFc := va_free (wc := []) hD hS hA [] rfl
  refine va_calli (va_runV (As := [.int c9]) (rest := []) ⟨hx, hb, hml, hown, hts⟩ (c_J0_indexOf l dC dI b0 en s.heap.size 1 c9 (z_c_X18_isRay_25)) (cwV 1 hts gX18_isRay_J0_indexOf_0f7a4 rfl rfl rfl (by decide +kernel) ⟨Nat.le_of_ble_eq_true rfl, Nat.le_of_ble_eq_true rfl⟩) ⟨cP.blind, (en_recv (hE.lit hAb 1 (by decide)).1 hS), cP.use (en_z hb0 hS) (hE.on hAb hS) hPc hKc hDc trivial⟩ rfl rfl hl.1 rfl (lv_room (Nat.le_of_ble_eq_true rfl)) dX18_isRay_3 ⟨Nat.le_of_ble_eq_true rfl, Nat.le_of_ble_eq_true rfl⟩) hS (fun q _ h => hFc q h) hFc (fun r_1 u t H1 locs ht hvm hw hB hz1 hk1 hS => ?_)
  have hP1 : va_P (dC, dI) vwCl [] H1 := fun k q h => by simp at h
  have hD1 : va_D (va_A [] s.heap.size) [] := ⟨fun i j p q h => by simp at h, fun k q h => by simp at h⟩
  try dsimp only at hw
  obtain ⟨hP, hD⟩ := va_join (wr := []) (w1 := []) hP hD [] [] rfl rfl (by decide) (by decide) hk1 hFc hP1 hD1
  generalize H1 = H at hP hS ⊢
  have hP : va_P (dC, dI) vwCl [] H := hP
  have hD : va_D A [] := hD
  have hR : va_P (dC, dI) vwCl [] H := fun k q h => by simp at h
  refine W.widen (k := 0) (n := 0) (Nat.le_of_ble_eq_true rfl) (Nat.le_of_ble_eq_true rfl) ?_
  subst r_1
  refine lv_if_lt (tgt := 13) hx hb dX18_isRay_6 (by decide) (fun c_2 => ?_) (fun c_2 => ?_)
  · skip
    refine lv_iconst (v := 0) hx hb dX18_isRay_13 (by decide) ?_
    refine W.widen (k := 0) (n := 0) (Nat.le_of_ble_eq_true rfl) (Nat.le_of_ble_eq_true rfl) ?_
    exact W.zret (v := 0) hx hb hr (by first | rfl | decide +kernel) (fun t ht hW => ⟨⟨0, (), rfl, (z_c_X18_isRay_26 c9 c_2), trivial⟩, hS.F ht⟩) hS.2.2 dX18_isRay_14
  · skip
    refine lv_iconst (v := 1) hx hb dX18_isRay_9 (by decide) ?_
    refine lv_goto (tgt := 14) hx hb dX18_isRay_10 (by decide) ?_
    refine W.widen (k := 0) (n := 0) (Nat.le_of_ble_eq_true rfl) (Nat.le_of_ble_eq_true rfl) ?_
    exact W.zret (v := 1) hx hb hr (by first | rfl | decide +kernel) (fun t ht hW => ⟨⟨1, (), rfl, (z_c_X18_isRay_27 c9 c_2), trivial⟩, hS.F ht⟩) hS.2.2 dX18_isRay_14

set_option maxHeartbeats 4000000 in
set_option maxRecDepth 100000 in
theorem c_X18_clash (l : Launch) (dC : Nat → ClassId) (dI : Nat → Nat → Nat) (b0 : Nat) (en : EnT) (sz : Nat) (mm stu cla pic act nts isn boa mas pai sol bal leg : Nat) (a b : Int32) : Met l yX18_clash wsX18_clash ({ frames := 2, cells := 0, slots := 0, locals := 43 } : Room) (cP b0 en (dC, dI) [] [(mm, .inr (24, [.int 0, .ref stu, .ref cla, .ref pic, .ref act, .int 5, .int 50, .ref nts, .ref isn, .int 1600, .ref boa, .ref mas, .ref pai, .ref sol, .int 0, .ref bal, .ref leg]))] [(stu, .inr (5, [.int 0, .ref en.2.2.1, .int 0]))] sz (fun _ => True) [.ref mm, .int a, .int b]) (va_Qi (fun (r : Int32) (u : Int32 × List Value) => u.1 = 1) (fun u t => cB (dC, dI) [] [(mm, .inr (24, .int u.1 :: u.2))] (va_A [(mm, .inr (24, [.int 0, .ref stu, .ref cla, .ref pic, .ref act, .int 5, .int 50, .ref nts, .ref isn, .int 1600, .ref boa, .ref mas, .ref pai, .ref sol, .int 0, .ref bal, .ref leg]))] sz) (fun _ => True) t) (va_A [(mm, .inr (24, [.int 0, .ref stu, .ref cla, .ref pic, .ref act, .int 5, .int 50, .ref nts, .ref isn, .int 1600, .ref boa, .ref mas, .ref pai, .ref sol, .int 0, .ref bal, .ref leg]))] sz)) 0 0 (va_A [(mm, .inr (24, [.int 0, .ref stu, .ref cla, .ref pic, .ref act, .int 5, .int 50, .ref nts, .ref isn, .int 1600, .ref boa, .ref mas, .ref pai, .ref sol, .int 0, .ref bal, .ref leg]))] sz) := by
  refine Met.ofW (cc := cX18_clash) (maxL := 4) (ret := (some .boolean)) (by decide) rfl ?_
  intro p e s m args below meth c s₁ B hml hv
  obtain ⟨rfl, hsz, hb0, hE, hPP, hK, hDD, hF0⟩ := hv
  have hx := B.exec
  have hb := B.bytes
  have hr := B.returns
  have hts := atoms_spec (ws := wsX18_clash) B.pre
  have hown : s.vm.findClass RX18 = some m.cls := findClass_of_methodNamed B.named
  have hlocks := B.notSynchronized
  subst hsz
  have hN0 := en_N hPP hDD rfl
  have hP : va_P (dC, dI) vwCl [(mm, .inr (24, [.int 0, .ref stu, .ref cla, .ref pic, .ref act, .int 5, .int 50, .ref nts, .ref isn, .int 1600, .ref boa, .ref mas, .ref pai, .ref sol, .int 0, .ref bal, .ref leg]))] s.heap := hPP.sub [0] rfl
  have hR0 : va_P (dC, dI) vwCl [(stu, .inr (5, [.int 0, .ref en.2.2.1, .int 0]))] s.heap := hPP.sub [1] rfl
  have hD0 : va_D (fun q => b0 ≤ q) [(mm, .inr (24, [.int 0, .ref stu, .ref cla, .ref pic, .ref act, .int 5, .int 50, .ref nts, .ref isn, .int 1600, .ref boa, .ref mas, .ref pai, .ref sol, .int 0, .ref bal, .ref leg]))] := hDD.sub [0] (by decide) rfl
  have hDr : va_D (fun q => b0 ≤ q) [(stu, .inr (5, [.int 0, .ref en.2.2.1, .int 0]))] := hDD.sub [1] (by decide) rfl
  have hAb := en_A (sz := s.heap.size) hD0 hb0
  have hD := hD0.self (sz := s.heap.size)
  generalize hAe : va_A [(mm, .inr (24, [.int 0, .ref stu, .ref cla, .ref pic, .ref act, .int 5, .int 50, .ref nts, .ref isn, .int 1600, .ref boa, .ref mas, .ref pai, .ref sol, .int 0, .ref bal, .ref leg]))] s.heap.size = A at hD hAb hN0 ⊢
  have hA : ∀ q : Nat, s.heap.size ≤ q → A q := fun q h => by rw [← hAe]; exact Or.inr h
  have hS : va_S A s.heap s.heap [] := va_S.rf
  have hR := hR0
  have hl := lv_entry [.ref mm, .int a, .int b] (n := 4) (Nat.le_of_ble_eq_true rfl)
  rw [lg_entry_eq]
  generalize (lg_sl [.ref mm, .int a, .int b] ++ List.replicate (4 - (lg_sl [.ref mm, .int a, .int b]).length) Slot.unset).toArray = ls at hl ⊢
  have hl : lv_has ls 4 [(0, .ref mm), (1, .int a), (2, .int b)] := hl
  refine lv_aload_n hx hb dX18_clash_0 rfl (lv_at hl 0 rfl) ?_
  refine lv_iload_n hx hb dX18_clash_1 rfl (lv_at hl 1 rfl) ?_
  have hPc := (hP.app hR).sub (ws' := [] ++ [(mm, .inr (24, [.int 0, .ref stu, .ref cla, .ref pic, .ref act, .int 5, .int 50, .ref nts, .ref isn, .int 1600, .ref boa, .ref mas, .ref pai, .ref sol, .int 0, .ref bal, .ref leg])), (stu, .inr (5, [.int 0, .ref en.2.2.1, .int 0]))]) [0, 1] rfl
  have hDc := (en_DD hD hDr hN0 hAb).sub (ws' := [] ++ [(mm, .inr (24, [.int 0, .ref stu, .ref cla, .ref pic, .ref act, .int 5, .int 50, .ref nts, .ref isn, .int 1600, .ref boa, .ref mas, .ref pai, .ref sol, .int 0, .ref bal, .ref leg])), (stu, .inr (5, [.int 0, .ref en.2.2.1, .int 0]))]) [0, 1] (by decide) rfl
  have hKc := hK.sub (tys' := []) [] rfl
  have hFc := va_free (wc := []) hD hS hA [] rfl
  refine va_calli (va_runV (As := [.int a]) (rest := []) ⟨hx, hb, hml, hown, hts⟩ (c_X18_isStuff l dC dI b0 en s.heap.size mm stu cla pic act nts isn boa mas pai sol bal leg a) (cwV 1 hts gX18_clash_X18_isStuff rfl rfl rfl (by decide +kernel) ⟨Nat.le_of_ble_eq_true rfl, Nat.le_of_ble_eq_true rfl⟩) ⟨cP.blind, va_recv hK hP (ci := 24) (q0 := 0) rfl rfl, cP.use (en_z hb0 hS) (hE.on hAb hS) hPc hKc hDc trivial⟩ rfl rfl hl.1 rfl (lv_room (Nat.le_of_ble_eq_true rfl)) dX18_clash_2 ⟨Nat.le_of_ble_eq_true rfl, Nat.le_of_ble_eq_true rfl⟩) hS (fun q _ h => hFc q h) hFc (fun r_1 u t H1 locs ht hvm hw hB hz1 hk1 hS => ?_)
  have hP1 : va_P (dC, dI) vwCl [] H1 := fun k q h => by simp at h
  have hD1 : va_D (va_A [] s.heap.size) [] := ⟨fun i j p q h => by simp at h, fun k q h => by simp at h⟩
  try dsimp only at hw
  obtain ⟨hP, hD⟩ := va_join (wr := [(mm, .inr (24, [.int 0, .ref stu, .ref cla, .ref pic, .ref act, .int 5, .int 50, .ref nts, .ref isn, .int 1600, .ref boa, .ref mas, .ref pai, .ref sol, .int 0, .ref bal, .ref leg]))]) (w1 := []) hP hD [] [0] rfl rfl (by decide) (by decide) hk1 hFc hP1 hD1
  generalize H1 = H at hP hS ⊢
  have hP : va_P (dC, dI) vwCl [(mm, .inr (24, [.int 0, .ref stu, .ref cla, .ref pic, .ref act, .int 5, .int 50, .ref nts, .ref isn, .int 1600, .ref boa, .ref mas, .ref pai, .ref sol, .int 0, .ref bal, .ref leg]))] H := hP
  have hD : va_D A [(mm, .inr (24, [.int 0, .ref stu, .ref cla, .ref pic, .ref act, .int 5, .int 50, .ref nts, .ref isn, .int 1600, .ref boa, .ref mas, .ref pai, .ref sol, .int 0, .ref bal, .ref leg]))] := hD
  have hR := en_R hR0 hN0 hS
  refine W.widen (k := 0) (n := 0) (Nat.le_of_ble_eq_true rfl) (Nat.le_of_ble_eq_true rfl) ?_
  subst r_1
  refine lv_if_eq (tgt := 16) hx hb dX18_clash_5 (by decide) (fun c_2 => ?_) (fun c_2 => absurd c_2 (by decide))
  refine lv_aload_n hx hb dX18_clash_16 rfl (lv_at hl 0 rfl) ?_
  refine lv_iconst (v := 1) hx hb dX18_clash_17 (by decide) ?_
  have hPc := (hP.app hR).sub (ws' := [(mm, .inr (24, .int 0 :: ([.ref stu, .ref cla, .ref pic, .ref act, .int 5, .int 50, .ref nts, .ref isn, .int 1600, .ref boa, .ref mas, .ref pai, .ref sol, .int 0, .ref bal, .ref leg])))] ++ []) [0] rfl
  have hDc := (en_DD hD hDr hN0 hAb).sub (ws' := [(mm, .inr (24, .int 0 :: ([.ref stu, .ref cla, .ref pic, .ref act, .int 5, .int 50, .ref nts, .ref isn, .int 1600, .ref boa, .ref mas, .ref pai, .ref sol, .int 0, .ref bal, .ref leg])))] ++ []) [0] (by decide) rfl
  have hKc := hK.sub (tys' := []) [] rfl
  have hFc := va_free (wc := [(mm, .inr (24, .int 0 :: ([.ref stu, .ref cla, .ref pic, .ref act, .int 5, .int 50, .ref nts, .ref isn, .int 1600, .ref boa, .ref mas, .ref pai, .ref sol, .int 0, .ref bal, .ref leg])))]) hD hS hA [0] rfl
  refine va_calli (va_runV (As := [.int 1]) (rest := []) ⟨hx, hb, hml, hown, hts⟩ (c_X18_failsBoolean l dC dI b0 en H.size mm 0 1 ([.ref stu, .ref cla, .ref pic, .ref act, .int 5, .int 50, .ref nts, .ref isn, .int 1600, .ref boa, .ref mas, .ref pai, .ref sol, .int 0, .ref bal, .ref leg])) (cwV 1 hts gX18_clash_X18_failsBoolean rfl rfl rfl (by decide +kernel) ⟨Nat.le_of_ble_eq_true rfl, Nat.le_of_ble_eq_true rfl⟩) ⟨cP.blind, va_recv hK hP (ci := 24) (q0 := 0) rfl rfl, cP.use (en_z hb0 hS) (hE.on hAb hS) hPc hKc hDc trivial⟩ rfl rfl hl.1 rfl (lv_room (Nat.le_of_ble_eq_true rfl)) dX18_clash_18 ⟨Nat.le_of_ble_eq_true rfl, Nat.le_of_ble_eq_true rfl⟩) hS (fun q _ h => hFc q h) hFc (fun r_3 u t H1 locs ht hvm hw hB hz1 hk1 hS => ?_)
  obtain ⟨hP1, hK1, hD1, hF1⟩ := hB
  rw [ht] at hP1
  try rw [ht] at hF1
  have hK1 := va_K.moved hvm.symm hK1
  try dsimp only at hw
  obtain ⟨hP, hD⟩ := va_join (wr := []) (w1 := [(mm, .inr (24, [.int 1, .ref stu, .ref cla, .ref pic, .ref act, .int 5, .int 50, .ref nts, .ref isn, .int 1600, .ref boa, .ref mas, .ref pai, .ref sol, .int 0, .ref bal, .ref leg]))]) hP hD [0] [] rfl rfl (by decide) (by decide) hk1 hFc hP1 hD1
  generalize H1 = H at hP hS ⊢
  have hP : va_P (dC, dI) vwCl [(mm, .inr (24, [.int 1, .ref stu, .ref cla, .ref pic, .ref act, .int 5, .int 50, .ref nts, .ref isn, .int 1600, .ref boa, .ref mas, .ref pai, .ref sol, .int 0, .ref bal, .ref leg]))] H := hP
  have hD : va_D A [(mm, .inr (24, [.int 1, .ref stu, .ref cla, .ref pic, .ref act, .int 5, .int 50, .ref nts, .ref isn, .int 1600, .ref boa, .ref mas, .ref pai, .ref sol, .int 0, .ref bal, .ref leg]))] := hD
  have hR := en_R hR0 hN0 hS
  refine W.widen (k := 0) (n := 0) (Nat.le_of_ble_eq_true rfl) (Nat.le_of_ble_eq_true rfl) ?_
  subst r_3
  refine W.widen (k := 0) (n := 0) (Nat.le_of_ble_eq_true rfl) (Nat.le_of_ble_eq_true rfl) ?_
  exact W.zret (v := 0) hx hb hr (by first | rfl | decide +kernel) (fun t ht hW => ⟨⟨0, ⟨1, [.ref stu, .ref cla, .ref pic, .ref act, .int 5, .int 50, .ref nts, .ref isn, .int 1600, .ref boa, .ref mas, .ref pai, .ref sol, .int 0, .ref bal, .ref leg]⟩, rfl, (z_c_isEmpty0_22), cB.mk ht hW (hP.sub [0] rfl) (hK.sub [] rfl) (hD.sub [0] (by decide) rfl) (trivial)⟩, hS.F ht⟩) hS.2.2 dX18_clash_21

set_option maxHeartbeats 4000000 in
set_option maxRecDepth 100000 in
theorem c_X18_lay (l : Launch) (dC : Nat → ClassId) (dI : Nat → Nat → Nat) (b0 : Nat) (en : EnT) (sz : Nat) (mm stu cla pic act nts isn boa mas pai sol bal leg : Nat) (a b c9 d e9 f9 : Int32) : Met l yX18_lay wsX18_lay ({ frames := 2, cells := 0, slots := 0, locals := 43 } : Room) (cP b0 en (dC, dI) [] [(mm, .inr (24, [.int 0, .ref stu, .ref cla, .ref pic, .ref act, .int 5, .int 50, .ref nts, .ref isn, .int 1600, .ref boa, .ref mas, .ref pai, .ref sol, .int 0, .ref bal, .ref leg]))] [(stu, .inr (5, [.int 0, .ref en.2.2.1, .int 0]))] sz (fun _ => True) [.ref mm, .int a, .int b, .int c9, .int d, .int e9, .int f9]) (va_Qi (fun (r : Int32) (u : Int32 × List Value) => u.1 = 1) (fun u t => cB (dC, dI) [] [(mm, .inr (24, .int u.1 :: u.2))] (va_A [(mm, .inr (24, [.int 0, .ref stu, .ref cla, .ref pic, .ref act, .int 5, .int 50, .ref nts, .ref isn, .int 1600, .ref boa, .ref mas, .ref pai, .ref sol, .int 0, .ref bal, .ref leg]))] sz) (fun _ => True) t) (va_A [(mm, .inr (24, [.int 0, .ref stu, .ref cla, .ref pic, .ref act, .int 5, .int 50, .ref nts, .ref isn, .int 1600, .ref boa, .ref mas, .ref pai, .ref sol, .int 0, .ref bal, .ref leg]))] sz)) 0 0 (va_A [(mm, .inr (24, [.int 0, .ref stu, .ref cla, .ref pic, .ref act, .int 5, .int 50, .ref nts, .ref isn, .int 1600, .ref boa, .ref mas, .ref pai, .ref sol, .int 0, .ref bal, .ref leg]))] sz) := by
  refine Met.ofW (cc := cX18_lay) (maxL := 7) (ret := (some .int)) (by decide) rfl ?_
  intro p e s m args below meth c s₁ B hml hv
  obtain ⟨rfl, hsz, hb0, hE, hPP, hK, hDD, hF0⟩ := hv
  have hx := B.exec
  have hb := B.bytes
  have hr := B.returns
  have hts := atoms_spec (ws := wsX18_lay) B.pre
  have hown : s.vm.findClass RX18 = some m.cls := findClass_of_methodNamed B.named
  have hlocks := B.notSynchronized
  subst hsz
  have hN0 := en_N hPP hDD rfl
  have hP : va_P (dC, dI) vwCl [(mm, .inr (24, [.int 0, .ref stu, .ref cla, .ref pic, .ref act, .int 5, .int 50, .ref nts, .ref isn, .int 1600, .ref boa, .ref mas, .ref pai, .ref sol, .int 0, .ref bal, .ref leg]))] s.heap := hPP.sub [0] rfl
  have hR0 : va_P (dC, dI) vwCl [(stu, .inr (5, [.int 0, .ref en.2.2.1, .int 0]))] s.heap := hPP.sub [1] rfl
  have hD0 : va_D (fun q => b0 ≤ q) [(mm, .inr (24, [.int 0, .ref stu, .ref cla, .ref pic, .ref act, .int 5, .int 50, .ref nts, .ref isn, .int 1600, .ref boa, .ref mas, .ref pai, .ref sol, .int 0, .ref bal, .ref leg]))] := hDD.sub [0] (by decide) rfl
  have hDr : va_D (fun q => b0 ≤ q) [(stu, .inr (5, [.int 0, .ref en.2.2.1, .int 0]))] := hDD.sub [1] (by decide) rfl
  have hAb := en_A (sz := s.heap.size) hD0 hb0
  have hD := hD0.self (sz := s.heap.size)
  generalize hAe : va_A [(mm, .inr (24, [.int 0, .ref stu, .ref cla, .ref pic, .ref act, .int 5, .int 50, .ref nts, .ref isn, .int 1600, .ref boa, .ref mas, .ref pai, .ref sol, .int 0, .ref bal, .ref leg]))] s.heap.size = A at hD hAb hN0 ⊢
  have hA : ∀ q : Nat, s.heap.size ≤ q → A q := fun q h => by rw [← hAe]; exact Or.inr h
  have hS : va_S A s.heap s.heap [] := va_S.rf
  have hR := hR0
  have hl := lv_entry [.ref mm, .int a, .int b, .int c9, .int d, .int e9, .int f9] (n := 7) (Nat.le_of_ble_eq_true rfl)
  rw [lg_entry_eq]
  generalize (lg_sl [.ref mm, .int a, .int b, .int c9, .int d, .int e9, .int f9] ++ List.replicate (7 - (lg_sl [.ref mm, .int a, .int b, .int c9, .int d, .int e9, .int f9]).length) Slot.unset).toArray = ls at hl ⊢
  have hl : lv_has ls 7 [(0, .ref mm), (1, .int a), (2, .int b), (3, .int c9), (4, .int d), (5, .int e9), (6, .int f9)] := hl
  refine lv_aload_n hx hb dX18_lay_0 rfl (lv_at hl 0 rfl) ?_
  refine lv_iconst (v := 0) hx hb dX18_lay_1 (by decide) ?_
  refine va_put (D := (dC, dI)) (ci := 24) (v := .int 0) (ty := .int) (C := RX18) (T := TX18) (N := 17) hx hb hts (by decide +kernel) tyX18 tyX18_ok nmX18 hown hK hP hD hS 0 rfl rfl 0 (by decide) (hts (.fieldLink RX18 67 "UnderpaintModel" "code" "I") (by decide +kernel)) (fun _ h9 => h9) rfl (by decide +kernel) rfl rfl (Nat.le_of_ble_eq_true rfl) dX18_lay_2 (fun H locs hP hD hS => ?_)
  have hP : va_P (dC, dI) vwCl [(mm, .inr (24, [.int 0, .ref stu, .ref cla, .ref pic, .ref act, .int 5, .int 50, .ref nts, .ref isn, .int 1600, .ref boa, .ref mas, .ref pai, .ref sol, .int 0, .ref bal, .ref leg]))] H := hP
  have hD : va_D A [(mm, .inr (24, [.int 0, .ref stu, .ref cla, .ref pic, .ref act, .int 5, .int 50, .ref nts, .ref isn, .int 1600, .ref boa, .ref mas, .ref pai, .ref sol, .int 0, .ref bal, .ref leg]))] := hD
  have hR := en_R hR0 hN0 hS
  refine lv_aload_n hx hb dX18_lay_5 rfl (lv_at hl 0 rfl) ?_
  refine lv_iload_n hx hb dX18_lay_6 rfl (lv_at hl 1 rfl) ?_
  have hPc := (hP.app hR).sub (ws' := [] ++ [(mm, .inr (24, [.int 0, .ref stu, .ref cla, .ref pic, .ref act, .int 5, .int 50, .ref nts, .ref isn, .int 1600, .ref boa, .ref mas, .ref pai, .ref sol, .int 0, .ref bal, .ref leg])), (stu, .inr (5, [.int 0, .ref en.2.2.1, .int 0]))]) [0, 1] rfl
  have hDc := (en_DD hD hDr hN0 hAb).sub (ws' := [] ++ [(mm, .inr (24, [.int 0, .ref stu, .ref cla, .ref pic, .ref act, .int 5, .int 50, .ref nts, .ref isn, .int 1600, .ref boa, .ref mas, .ref pai, .ref sol, .int 0, .ref bal, .ref leg])), (stu, .inr (5, [.int 0, .ref en.2.2.1, .int 0]))]) [0, 1] (by decide) rfl
  have hKc := hK.sub (tys' := []) [] rfl
  have hFc := va_free (wc := []) hD hS hA [] rfl
  refine va_calli (va_runV (As := [.int a]) (rest := []) ⟨hx, hb, hml, hown, hts⟩ (c_X18_isStuff l dC dI b0 en H.size mm stu cla pic act nts isn boa mas pai sol bal leg a) (cwV 1 hts gX18_lay_X18_isStuff rfl rfl rfl (by decide +kernel) ⟨Nat.le_of_ble_eq_true rfl, Nat.le_of_ble_eq_true rfl⟩) ⟨cP.blind, va_recv hK hP (ci := 24) (q0 := 0) rfl rfl, cP.use (en_z hb0 hS) (hE.on hAb hS) hPc hKc hDc trivial⟩ rfl rfl hl.1 rfl (lv_room (Nat.le_of_ble_eq_true rfl)) dX18_lay_7 ⟨Nat.le_of_ble_eq_true rfl, Nat.le_of_ble_eq_true rfl⟩) hS (fun q _ h => hFc q h) hFc (fun r_1 u t H1 locs ht hvm hw hB hz1 hk1 hS => ?_)
  have hP1 : va_P (dC, dI) vwCl [] H1 := fun k q h => by simp at h
  have hD1 : va_D (va_A [] H.size) [] := ⟨fun i j p q h => by simp at h, fun k q h => by simp at h⟩
  try dsimp only at hw
  obtain ⟨hP, hD⟩ := va_join (wr := [(mm, .inr (24, [.int 0, .ref stu, .ref cla, .ref pic, .ref act, .int 5, .int 50, .ref nts, .ref isn, .int 1600, .ref boa, .ref mas, .ref pai, .ref sol, .int 0, .ref bal, .ref leg]))]) (w1 := []) hP hD [] [0] rfl rfl (by decide) (by decide) hk1 hFc hP1 hD1
  generalize H1 = H at hP hS ⊢
  have hP : va_P (dC, dI) vwCl [(mm, .inr (24, [.int 0, .ref stu, .ref cla, .ref pic, .ref act, .int 5, .int 50, .ref nts, .ref isn, .int 1600, .ref boa, .ref mas, .ref pai, .ref sol, .int 0, .ref bal, .ref leg]))] H := hP
  have hD : va_D A [(mm, .inr (24, [.int 0, .ref stu, .ref cla, .ref pic, .ref act, .int 5, .int 50, .ref nts, .ref isn, .int 1600, .ref boa, .ref mas, .ref pai, .ref sol, .int 0, .ref bal, .ref leg]))] := hD
  have hR := en_R hR0 hN0 hS
  refine W.widen (k := 0) (n := 0) (Nat.le_of_ble_eq_true rfl) (Nat.le_of_ble_eq_true rfl) ?_
  subst r_1
  refine lv_if_ne (tgt := 19) hx hb dX18_lay_10 (by decide) (fun c_2 => absurd c_2 (by decide)) (fun c_2 => ?_)
  refine lv_aload_n hx hb dX18_lay_13 rfl (lv_at hl 0 rfl) ?_
  refine lv_iconst (v := 1) hx hb dX18_lay_14 (by decide) ?_
  have hPc := (hP.app hR).sub (ws' := [(mm, .inr (24, .int 0 :: ([.ref stu, .ref cla, .ref pic, .ref act, .int 5, .int 50, .ref nts, .ref isn, .int 1600, .ref boa, .ref mas, .ref pai, .ref sol, .int 0, .ref bal, .ref leg])))] ++ []) [0] rfl
  have hDc := (en_DD hD hDr hN0 hAb).sub (ws' := [(mm, .inr (24, .int 0 :: ([.ref stu, .ref cla, .ref pic, .ref act, .int 5, .int 50, .ref nts, .ref isn, .int 1600, .ref boa, .ref mas, .ref pai, .ref sol, .int 0, .ref bal, .ref leg])))] ++ []) [0] (by decide) rfl
  have hKc := hK.sub (tys' := []) [] rfl
  have hFc := va_free (wc := [(mm, .inr (24, .int 0 :: ([.ref stu, .ref cla, .ref pic, .ref act, .int 5, .int 50, .ref nts, .ref isn, .int 1600, .ref boa, .ref mas, .ref pai, .ref sol, .int 0, .ref bal, .ref leg])))]) hD hS hA [0] rfl
  refine va_calli (va_runV (As := [.int 1]) (rest := []) ⟨hx, hb, hml, hown, hts⟩ (c_X18_fails l dC dI b0 en H.size mm 0 1 ([.ref stu, .ref cla, .ref pic, .ref act, .int 5, .int 50, .ref nts, .ref isn, .int 1600, .ref boa, .ref mas, .ref pai, .ref sol, .int 0, .ref bal, .ref leg])) (cwV 1 hts gX18_lay_X18_fails rfl rfl rfl (by decide +kernel) ⟨Nat.le_of_ble_eq_true rfl, Nat.le_of_ble_eq_true rfl⟩) ⟨cP.blind, va_recv hK hP (ci := 24) (q0 := 0) rfl rfl, cP.use (en_z hb0 hS) (hE.on hAb hS) hPc hKc hDc trivial⟩ rfl rfl hl.1 rfl (lv_room (Nat.le_of_ble_eq_true rfl)) dX18_lay_15 ⟨Nat.le_of_ble_eq_true rfl, Nat.le_of_ble_eq_true rfl⟩) hS (fun q _ h => hFc q h) hFc (fun r_3 u t H1 locs ht hvm hw hB hz1 hk1 hS => ?_)
  obtain ⟨hP1, hK1, hD1, hF1⟩ := hB
  rw [ht] at hP1
  try rw [ht] at hF1
  have hK1 := va_K.moved hvm.symm hK1
  try dsimp only at hw
  obtain ⟨hP, hD⟩ := va_join (wr := []) (w1 := [(mm, .inr (24, [.int 1, .ref stu, .ref cla, .ref pic, .ref act, .int 5, .int 50, .ref nts, .ref isn, .int 1600, .ref boa, .ref mas, .ref pai, .ref sol, .int 0, .ref bal, .ref leg]))]) hP hD [0] [] rfl rfl (by decide) (by decide) hk1 hFc hP1 hD1
  generalize H1 = H at hP hS ⊢
  have hP : va_P (dC, dI) vwCl [(mm, .inr (24, [.int 1, .ref stu, .ref cla, .ref pic, .ref act, .int 5, .int 50, .ref nts, .ref isn, .int 1600, .ref boa, .ref mas, .ref pai, .ref sol, .int 0, .ref bal, .ref leg]))] H := hP
  have hD : va_D A [(mm, .inr (24, [.int 1, .ref stu, .ref cla, .ref pic, .ref act, .int 5, .int 50, .ref nts, .ref isn, .int 1600, .ref boa, .ref mas, .ref pai, .ref sol, .int 0, .ref bal, .ref leg]))] := hD
  have hR := en_R hR0 hN0 hS
  refine W.widen (k := 0) (n := 0) (Nat.le_of_ble_eq_true rfl) (Nat.le_of_ble_eq_true rfl) ?_
  subst r_3
  refine W.widen (k := 0) (n := 0) (Nat.le_of_ble_eq_true rfl) (Nat.le_of_ble_eq_true rfl) ?_
  exact W.iret (v := 0) hx hb hr (fun t ht hW => ⟨⟨0, ⟨1, [.ref stu, .ref cla, .ref pic, .ref act, .int 5, .int 50, .ref nts, .ref isn, .int 1600, .ref boa, .ref mas, .ref pai, .ref sol, .int 0, .ref bal, .ref leg]⟩, rfl, (z_c_isEmpty0_22), cB.mk ht hW (hP.sub [0] rfl) (hK.sub [] rfl) (hD.sub [0] (by decide) rfl) (trivial)⟩, hS.F ht⟩) hS.2.2 dX18_lay_18

set_option maxHeartbeats 4000000 in
set_option maxRecDepth 100000 in
theorem c_X18_tested (l : Launch) (dC : Nat → ClassId) (dI : Nat → Nat → Nat) (b0 : Nat) (en : EnT) (sz : Nat) (mm stu cla pic act nts isn boa mas pai sol bal leg : Nat) (a : Int32) : Met l yX18_tested wsX18_tested ({ frames := 2, cells := 0, slots := 0, locals := 43 } : Room) (cP b0 en (dC, dI) [] [(mm, .inr (24, [.int 0, .ref stu, .ref cla, .ref pic, .ref act, .int 5, .int 50, .ref nts, .ref isn, .int 1600, .ref boa, .ref mas, .ref pai, .ref sol, .int 0, .ref bal, .ref leg]))] [(sol, .inr (5, [.int 0, .ref en.2.2.1, .int 0]))] sz (fun _ => True) [.ref mm, .int a]) (va_Qi (fun (r : Int32) (u : Int32 × List Value) => u.1 = 1) (fun u t => cB (dC, dI) [] [(mm, .inr (24, .int u.1 :: u.2))] (va_A [(mm, .inr (24, [.int 0, .ref stu, .ref cla, .ref pic, .ref act, .int 5, .int 50, .ref nts, .ref isn, .int 1600, .ref boa, .ref mas, .ref pai, .ref sol, .int 0, .ref bal, .ref leg]))] sz) (fun _ => True) t) (va_A [(mm, .inr (24, [.int 0, .ref stu, .ref cla, .ref pic, .ref act, .int 5, .int 50, .ref nts, .ref isn, .int 1600, .ref boa, .ref mas, .ref pai, .ref sol, .int 0, .ref bal, .ref leg]))] sz)) 0 0 (va_A [(mm, .inr (24, [.int 0, .ref stu, .ref cla, .ref pic, .ref act, .int 5, .int 50, .ref nts, .ref isn, .int 1600, .ref boa, .ref mas, .ref pai, .ref sol, .int 0, .ref bal, .ref leg]))] sz) := by
  refine Met.ofW (cc := cX18_tested) (maxL := 2) (ret := (some .int)) (by decide) rfl ?_
  intro p e s m args below meth c s₁ B hml hv
  obtain ⟨rfl, hsz, hb0, hE, hPP, hK, hDD, hF0⟩ := hv
  have hx := B.exec
  have hb := B.bytes
  have hr := B.returns
  have hts := atoms_spec (ws := wsX18_tested) B.pre
  have hown : s.vm.findClass RX18 = some m.cls := findClass_of_methodNamed B.named
  have hlocks := B.notSynchronized
  subst hsz
  have hN0 := en_N hPP hDD rfl
  have hP : va_P (dC, dI) vwCl [(mm, .inr (24, [.int 0, .ref stu, .ref cla, .ref pic, .ref act, .int 5, .int 50, .ref nts, .ref isn, .int 1600, .ref boa, .ref mas, .ref pai, .ref sol, .int 0, .ref bal, .ref leg]))] s.heap := hPP.sub [0] rfl
  have hR0 : va_P (dC, dI) vwCl [(sol, .inr (5, [.int 0, .ref en.2.2.1, .int 0]))] s.heap := hPP.sub [1] rfl
  have hD0 : va_D (fun q => b0 ≤ q) [(mm, .inr (24, [.int 0, .ref stu, .ref cla, .ref pic, .ref act, .int 5, .int 50, .ref nts, .ref isn, .int 1600, .ref boa, .ref mas, .ref pai, .ref sol, .int 0, .ref bal, .ref leg]))] := hDD.sub [0] (by decide) rfl
  have hDr : va_D (fun q => b0 ≤ q) [(sol, .inr (5, [.int 0, .ref en.2.2.1, .int 0]))] := hDD.sub [1] (by decide) rfl
  have hAb := en_A (sz := s.heap.size) hD0 hb0
  have hD := hD0.self (sz := s.heap.size)
  generalize hAe : va_A [(mm, .inr (24, [.int 0, .ref stu, .ref cla, .ref pic, .ref act, .int 5, .int 50, .ref nts, .ref isn, .int 1600, .ref boa, .ref mas, .ref pai, .ref sol, .int 0, .ref bal, .ref leg]))] s.heap.size = A at hD hAb hN0 ⊢
  have hA : ∀ q : Nat, s.heap.size ≤ q → A q := fun q h => by rw [← hAe]; exact Or.inr h
  have hS : va_S A s.heap s.heap [] := va_S.rf
  have hR := hR0
  have hl := lv_entry [.ref mm, .int a] (n := 2) (Nat.le_of_ble_eq_true rfl)
  rw [lg_entry_eq]
  generalize (lg_sl [.ref mm, .int a] ++ List.replicate (2 - (lg_sl [.ref mm, .int a]).length) Slot.unset).toArray = ls at hl ⊢
  have hl : lv_has ls 2 [(0, .ref mm), (1, .int a)] := hl
  refine lv_aload_n hx hb dX18_tested_0 rfl (lv_at hl 0 rfl) ?_
  refine lv_iconst (v := 0) hx hb dX18_tested_1 (by decide) ?_
  refine va_put (D := (dC, dI)) (ci := 24) (v := .int 0) (ty := .int) (C := RX18) (T := TX18) (N := 17) hx hb hts (by decide +kernel) tyX18 tyX18_ok nmX18 hown hK hP hD hS 0 rfl rfl 0 (by decide) (hts (.fieldLink RX18 67 "UnderpaintModel" "code" "I") (by decide +kernel)) (fun _ h9 => h9) rfl (by decide +kernel) rfl rfl (Nat.le_of_ble_eq_true rfl) dX18_tested_2 (fun H locs hP hD hS => ?_)
  have hP : va_P (dC, dI) vwCl [(mm, .inr (24, [.int 0, .ref stu, .ref cla, .ref pic, .ref act, .int 5, .int 50, .ref nts, .ref isn, .int 1600, .ref boa, .ref mas, .ref pai, .ref sol, .int 0, .ref bal, .ref leg]))] H := hP
  have hD : va_D A [(mm, .inr (24, [.int 0, .ref stu, .ref cla, .ref pic, .ref act, .int 5, .int 50, .ref nts, .ref isn, .int 1600, .ref boa, .ref mas, .ref pai, .ref sol, .int 0, .ref bal, .ref leg]))] := hD
  have hR := en_R hR0 hN0 hS
  refine lv_aload_n hx hb dX18_tested_5 rfl (lv_at hl 0 rfl) ?_
  refine lv_iload_n hx hb dX18_tested_6 rfl (lv_at hl 1 rfl) ?_
  have hPc := (hP.app hR).sub (ws' := [] ++ [(mm, .inr (24, [.int 0, .ref stu, .ref cla, .ref pic, .ref act, .int 5, .int 50, .ref nts, .ref isn, .int 1600, .ref boa, .ref mas, .ref pai, .ref sol, .int 0, .ref bal, .ref leg])), (sol, .inr (5, [.int 0, .ref en.2.2.1, .int 0]))]) [0, 1] rfl
  have hDc := (en_DD hD hDr hN0 hAb).sub (ws' := [] ++ [(mm, .inr (24, [.int 0, .ref stu, .ref cla, .ref pic, .ref act, .int 5, .int 50, .ref nts, .ref isn, .int 1600, .ref boa, .ref mas, .ref pai, .ref sol, .int 0, .ref bal, .ref leg])), (sol, .inr (5, [.int 0, .ref en.2.2.1, .int 0]))]) [0, 1] (by decide) rfl
  have hKc := hK.sub (tys' := []) [] rfl
  have hFc := va_free (wc := []) hD hS hA [] rfl
  refine va_calli (va_runV (As := [.int a]) (rest := []) ⟨hx, hb, hml, hown, hts⟩ (c_X18_isSolvent l dC dI b0 en H.size mm stu cla pic act nts isn boa mas pai sol bal leg a) (cwV 1 hts gX18_tested_X18_isSolvent rfl rfl rfl (by decide +kernel) ⟨Nat.le_of_ble_eq_true rfl, Nat.le_of_ble_eq_true rfl⟩) ⟨cP.blind, va_recv hK hP (ci := 24) (q0 := 0) rfl rfl, cP.use (en_z hb0 hS) (hE.on hAb hS) hPc hKc hDc trivial⟩ rfl rfl hl.1 rfl (lv_room (Nat.le_of_ble_eq_true rfl)) dX18_tested_7 ⟨Nat.le_of_ble_eq_true rfl, Nat.le_of_ble_eq_true rfl⟩) hS (fun q _ h => hFc q h) hFc (fun r_1 u t H1 locs ht hvm hw hB hz1 hk1 hS => ?_)
  have hP1 : va_P (dC, dI) vwCl [] H1 := fun k q h => by simp at h
  have hD1 : va_D (va_A [] H.size) [] := ⟨fun i j p q h => by simp at h, fun k q h => by simp at h⟩
  try dsimp only at hw
  obtain ⟨hP, hD⟩ := va_join (wr := [(mm, .inr (24, [.int 0, .ref stu, .ref cla, .ref pic, .ref act, .int 5, .int 50, .ref nts, .ref isn, .int 1600, .ref boa, .ref mas, .ref pai, .ref sol, .int 0, .ref bal, .ref leg]))]) (w1 := []) hP hD [] [0] rfl rfl (by decide) (by decide) hk1 hFc hP1 hD1
  generalize H1 = H at hP hS ⊢
  have hP : va_P (dC, dI) vwCl [(mm, .inr (24, [.int 0, .ref stu, .ref cla, .ref pic, .ref act, .int 5, .int 50, .ref nts, .ref isn, .int 1600, .ref boa, .ref mas, .ref pai, .ref sol, .int 0, .ref bal, .ref leg]))] H := hP
  have hD : va_D A [(mm, .inr (24, [.int 0, .ref stu, .ref cla, .ref pic, .ref act, .int 5, .int 50, .ref nts, .ref isn, .int 1600, .ref boa, .ref mas, .ref pai, .ref sol, .int 0, .ref bal, .ref leg]))] := hD
  have hR := en_R hR0 hN0 hS
  refine W.widen (k := 0) (n := 0) (Nat.le_of_ble_eq_true rfl) (Nat.le_of_ble_eq_true rfl) ?_
  subst r_1
  refine lv_if_eq (tgt := 31) hx hb dX18_tested_10 (by decide) (fun c_2 => ?_) (fun c_2 => absurd c_2 (by decide))
  refine lv_aload_n hx hb dX18_tested_31 rfl (lv_at hl 0 rfl) ?_
  refine lv_iconst (v := 1) hx hb dX18_tested_32 (by decide) ?_
  have hPc := (hP.app hR).sub (ws' := [(mm, .inr (24, .int 0 :: ([.ref stu, .ref cla, .ref pic, .ref act, .int 5, .int 50, .ref nts, .ref isn, .int 1600, .ref boa, .ref mas, .ref pai, .ref sol, .int 0, .ref bal, .ref leg])))] ++ []) [0] rfl
  have hDc := (en_DD hD hDr hN0 hAb).sub (ws' := [(mm, .inr (24, .int 0 :: ([.ref stu, .ref cla, .ref pic, .ref act, .int 5, .int 50, .ref nts, .ref isn, .int 1600, .ref boa, .ref mas, .ref pai, .ref sol, .int 0, .ref bal, .ref leg])))] ++ []) [0] (by decide) rfl
  have hKc := hK.sub (tys' := []) [] rfl
  have hFc := va_free (wc := [(mm, .inr (24, .int 0 :: ([.ref stu, .ref cla, .ref pic, .ref act, .int 5, .int 50, .ref nts, .ref isn, .int 1600, .ref boa, .ref mas, .ref pai, .ref sol, .int 0, .ref bal, .ref leg])))]) hD hS hA [0] rfl
  refine va_calli (va_runV (As := [.int 1]) (rest := []) ⟨hx, hb, hml, hown, hts⟩ (c_X18_fails l dC dI b0 en H.size mm 0 1 ([.ref stu, .ref cla, .ref pic, .ref act, .int 5, .int 50, .ref nts, .ref isn, .int 1600, .ref boa, .ref mas, .ref pai, .ref sol, .int 0, .ref bal, .ref leg])) (cwV 1 hts gX18_tested_X18_fails rfl rfl rfl (by decide +kernel) ⟨Nat.le_of_ble_eq_true rfl, Nat.le_of_ble_eq_true rfl⟩) ⟨cP.blind, va_recv hK hP (ci := 24) (q0 := 0) rfl rfl, cP.use (en_z hb0 hS) (hE.on hAb hS) hPc hKc hDc trivial⟩ rfl rfl hl.1 rfl (lv_room (Nat.le_of_ble_eq_true rfl)) dX18_tested_33 ⟨Nat.le_of_ble_eq_true rfl, Nat.le_of_ble_eq_true rfl⟩) hS (fun q _ h => hFc q h) hFc (fun r_3 u t H1 locs ht hvm hw hB hz1 hk1 hS => ?_)
  obtain ⟨hP1, hK1, hD1, hF1⟩ := hB
  rw [ht] at hP1
  try rw [ht] at hF1
  have hK1 := va_K.moved hvm.symm hK1
  try dsimp only at hw
  obtain ⟨hP, hD⟩ := va_join (wr := []) (w1 := [(mm, .inr (24, [.int 1, .ref stu, .ref cla, .ref pic, .ref act, .int 5, .int 50, .ref nts, .ref isn, .int 1600, .ref boa, .ref mas, .ref pai, .ref sol, .int 0, .ref bal, .ref leg]))]) hP hD [0] [] rfl rfl (by decide) (by decide) hk1 hFc hP1 hD1
  generalize H1 = H at hP hS ⊢
  have hP : va_P (dC, dI) vwCl [(mm, .inr (24, [.int 1, .ref stu, .ref cla, .ref pic, .ref act, .int 5, .int 50, .ref nts, .ref isn, .int 1600, .ref boa, .ref mas, .ref pai, .ref sol, .int 0, .ref bal, .ref leg]))] H := hP
  have hD : va_D A [(mm, .inr (24, [.int 1, .ref stu, .ref cla, .ref pic, .ref act, .int 5, .int 50, .ref nts, .ref isn, .int 1600, .ref boa, .ref mas, .ref pai, .ref sol, .int 0, .ref bal, .ref leg]))] := hD
  have hR := en_R hR0 hN0 hS
  refine W.widen (k := 0) (n := 0) (Nat.le_of_ble_eq_true rfl) (Nat.le_of_ble_eq_true rfl) ?_
  subst r_3
  refine W.widen (k := 0) (n := 0) (Nat.le_of_ble_eq_true rfl) (Nat.le_of_ble_eq_true rfl) ?_
  exact W.iret (v := 0) hx hb hr (fun t ht hW => ⟨⟨0, ⟨1, [.ref stu, .ref cla, .ref pic, .ref act, .int 5, .int 50, .ref nts, .ref isn, .int 1600, .ref boa, .ref mas, .ref pai, .ref sol, .int 0, .ref bal, .ref leg]⟩, rfl, (z_c_isEmpty0_22), cB.mk ht hW (hP.sub [0] rfl) (hK.sub [] rfl) (hD.sub [0] (by decide) rfl) (trivial)⟩, hS.F ht⟩) hS.2.2 dX18_tested_36

set_option maxHeartbeats 4000000 in
set_option maxRecDepth 100000 in
theorem c_X18_swab (l : Launch) (dC : Nat → ClassId) (dI : Nat → Nat → Nat) (b0 : Nat) (en : EnT) (sz : Nat) (mm stu cla pic act nts isn boa mas pai sol bal leg : Nat) (a b c9 d : Int32) : Met l yX18_swab wsX18_swab ({ frames := 2, cells := 0, slots := 0, locals := 43 } : Room) (cP b0 en (dC, dI) [] [(mm, .inr (24, [.int 0, .ref stu, .ref cla, .ref pic, .ref act, .int 5, .int 50, .ref nts, .ref isn, .int 1600, .ref boa, .ref mas, .ref pai, .ref sol, .int 0, .ref bal, .ref leg]))] [(sol, .inr (5, [.int 0, .ref en.2.2.1, .int 0]))] sz (fun _ => True) [.ref mm, .int a, .int b, .int c9, .int d]) (va_Qi (fun (r : Int32) (u : Int32 × List Value) => u.1 = 1) (fun u t => cB (dC, dI) [] [(mm, .inr (24, .int u.1 :: u.2))] (va_A [(mm, .inr (24, [.int 0, .ref stu, .ref cla, .ref pic, .ref act, .int 5, .int 50, .ref nts, .ref isn, .int 1600, .ref boa, .ref mas, .ref pai, .ref sol, .int 0, .ref bal, .ref leg]))] sz) (fun _ => True) t) (va_A [(mm, .inr (24, [.int 0, .ref stu, .ref cla, .ref pic, .ref act, .int 5, .int 50, .ref nts, .ref isn, .int 1600, .ref boa, .ref mas, .ref pai, .ref sol, .int 0, .ref bal, .ref leg]))] sz)) 0 0 (va_A [(mm, .inr (24, [.int 0, .ref stu, .ref cla, .ref pic, .ref act, .int 5, .int 50, .ref nts, .ref isn, .int 1600, .ref boa, .ref mas, .ref pai, .ref sol, .int 0, .ref bal, .ref leg]))] sz) := by
  refine Met.ofW (cc := cX18_swab) (maxL := 10) (ret := (some .int)) (by decide) rfl ?_
  intro p e s m args below meth c s₁ B hml hv
  obtain ⟨rfl, hsz, hb0, hE, hPP, hK, hDD, hF0⟩ := hv
  have hx := B.exec
  have hb := B.bytes
  have hr := B.returns
  have hts := atoms_spec (ws := wsX18_swab) B.pre
  have hown : s.vm.findClass RX18 = some m.cls := findClass_of_methodNamed B.named
  have hlocks := B.notSynchronized
  subst hsz
  have hN0 := en_N hPP hDD rfl
  have hP : va_P (dC, dI) vwCl [(mm, .inr (24, [.int 0, .ref stu, .ref cla, .ref pic, .ref act, .int 5, .int 50, .ref nts, .ref isn, .int 1600, .ref boa, .ref mas, .ref pai, .ref sol, .int 0, .ref bal, .ref leg]))] s.heap := hPP.sub [0] rfl
  have hR0 : va_P (dC, dI) vwCl [(sol, .inr (5, [.int 0, .ref en.2.2.1, .int 0]))] s.heap := hPP.sub [1] rfl
  have hD0 : va_D (fun q => b0 ≤ q) [(mm, .inr (24, [.int 0, .ref stu, .ref cla, .ref pic, .ref act, .int 5, .int 50, .ref nts, .ref isn, .int 1600, .ref boa, .ref mas, .ref pai, .ref sol, .int 0, .ref bal, .ref leg]))] := hDD.sub [0] (by decide) rfl
  have hDr : va_D (fun q => b0 ≤ q) [(sol, .inr (5, [.int 0, .ref en.2.2.1, .int 0]))] := hDD.sub [1] (by decide) rfl
  have hAb := en_A (sz := s.heap.size) hD0 hb0
  have hD := hD0.self (sz := s.heap.size)
  generalize hAe : va_A [(mm, .inr (24, [.int 0, .ref stu, .ref cla, .ref pic, .ref act, .int 5, .int 50, .ref nts, .ref isn, .int 1600, .ref boa, .ref mas, .ref pai, .ref sol, .int 0, .ref bal, .ref leg]))] s.heap.size = A at hD hAb hN0 ⊢
  have hA : ∀ q : Nat, s.heap.size ≤ q → A q := fun q h => by rw [← hAe]; exact Or.inr h
  have hS : va_S A s.heap s.heap [] := va_S.rf
  have hR := hR0
  have hl := lv_entry [.ref mm, .int a, .int b, .int c9, .int d] (n := 10) (Nat.le_of_ble_eq_true rfl)
  rw [lg_entry_eq]
  generalize (lg_sl [.ref mm, .int a, .int b, .int c9, .int d] ++ List.replicate (10 - (lg_sl [.ref mm, .int a, .int b, .int c9, .int d]).length) Slot.unset).toArray = ls at hl ⊢
  have hl : lv_has ls 10 [(0, .ref mm), (1, .int a), (2, .int b), (3, .int c9), (4, .int d)] := hl
  refine lv_aload_n hx hb dX18_swab_0 rfl (lv_at hl 0 rfl) ?_
  refine lv_iconst (v := 0) hx hb dX18_swab_1 (by decide) ?_
  refine va_put (D := (dC, dI)) (ci := 24) (v := .int 0) (ty := .int) (C := RX18) (T := TX18) (N := 17) hx hb hts (by decide +kernel) tyX18 tyX18_ok nmX18 hown hK hP hD hS 0 rfl rfl 0 (by decide) (hts (.fieldLink RX18 67 "UnderpaintModel" "code" "I") (by decide +kernel)) (fun _ h9 => h9) rfl (by decide +kernel) rfl rfl (Nat.le_of_ble_eq_true rfl) dX18_swab_2 (fun H locs hP hD hS => ?_)
  have hP : va_P (dC, dI) vwCl [(mm, .inr (24, [.int 0, .ref stu, .ref cla, .ref pic, .ref act, .int 5, .int 50, .ref nts, .ref isn, .int 1600, .ref boa, .ref mas, .ref pai, .ref sol, .int 0, .ref bal, .ref leg]))] H := hP
  have hD : va_D A [(mm, .inr (24, [.int 0, .ref stu, .ref cla, .ref pic, .ref act, .int 5, .int 50, .ref nts, .ref isn, .int 1600, .ref boa, .ref mas, .ref pai, .ref sol, .int 0, .ref bal, .ref leg]))] := hD
  have hR := en_R hR0 hN0 hS
  refine lv_aload_n hx hb dX18_swab_5 rfl (lv_at hl 0 rfl) ?_
  refine lv_iload_n hx hb dX18_swab_6 rfl (lv_at hl 1 rfl) ?_
  have hPc := (hP.app hR).sub (ws' := [] ++ [(mm, .inr (24, [.int 0, .ref stu, .ref cla, .ref pic, .ref act, .int 5, .int 50, .ref nts, .ref isn, .int 1600, .ref boa, .ref mas, .ref pai, .ref sol, .int 0, .ref bal, .ref leg])), (sol, .inr (5, [.int 0, .ref en.2.2.1, .int 0]))]) [0, 1] rfl
  have hDc := (en_DD hD hDr hN0 hAb).sub (ws' := [] ++ [(mm, .inr (24, [.int 0, .ref stu, .ref cla, .ref pic, .ref act, .int 5, .int 50, .ref nts, .ref isn, .int 1600, .ref boa, .ref mas, .ref pai, .ref sol, .int 0, .ref bal, .ref leg])), (sol, .inr (5, [.int 0, .ref en.2.2.1, .int 0]))]) [0, 1] (by decide) rfl
  have hKc := hK.sub (tys' := []) [] rfl
  have hFc := va_free (wc := []) hD hS hA [] rfl
  refine va_calli (va_runV (As := [.int a]) (rest := []) ⟨hx, hb, hml, hown, hts⟩ (c_X18_isSolvent l dC dI b0 en H.size mm stu cla pic act nts isn boa mas pai sol bal leg a) (cwV 1 hts gX18_swab_X18_isSolvent rfl rfl rfl (by decide +kernel) ⟨Nat.le_of_ble_eq_true rfl, Nat.le_of_ble_eq_true rfl⟩) ⟨cP.blind, va_recv hK hP (ci := 24) (q0 := 0) rfl rfl, cP.use (en_z hb0 hS) (hE.on hAb hS) hPc hKc hDc trivial⟩ rfl rfl hl.1 rfl (lv_room (Nat.le_of_ble_eq_true rfl)) dX18_swab_7 ⟨Nat.le_of_ble_eq_true rfl, Nat.le_of_ble_eq_true rfl⟩) hS (fun q _ h => hFc q h) hFc (fun r_1 u t H1 locs ht hvm hw hB hz1 hk1 hS => ?_)
  have hP1 : va_P (dC, dI) vwCl [] H1 := fun k q h => by simp at h
  have hD1 : va_D (va_A [] H.size) [] := ⟨fun i j p q h => by simp at h, fun k q h => by simp at h⟩
  try dsimp only at hw
  obtain ⟨hP, hD⟩ := va_join (wr := [(mm, .inr (24, [.int 0, .ref stu, .ref cla, .ref pic, .ref act, .int 5, .int 50, .ref nts, .ref isn, .int 1600, .ref boa, .ref mas, .ref pai, .ref sol, .int 0, .ref bal, .ref leg]))]) (w1 := []) hP hD [] [0] rfl rfl (by decide) (by decide) hk1 hFc hP1 hD1
  generalize H1 = H at hP hS ⊢
  have hP : va_P (dC, dI) vwCl [(mm, .inr (24, [.int 0, .ref stu, .ref cla, .ref pic, .ref act, .int 5, .int 50, .ref nts, .ref isn, .int 1600, .ref boa, .ref mas, .ref pai, .ref sol, .int 0, .ref bal, .ref leg]))] H := hP
  have hD : va_D A [(mm, .inr (24, [.int 0, .ref stu, .ref cla, .ref pic, .ref act, .int 5, .int 50, .ref nts, .ref isn, .int 1600, .ref boa, .ref mas, .ref pai, .ref sol, .int 0, .ref bal, .ref leg]))] := hD
  have hR := en_R hR0 hN0 hS
  refine W.widen (k := 0) (n := 0) (Nat.le_of_ble_eq_true rfl) (Nat.le_of_ble_eq_true rfl) ?_
  subst r_1
  refine lv_if_ne (tgt := 19) hx hb dX18_swab_10 (by decide) (fun c_2 => absurd c_2 (by decide)) (fun c_2 => ?_)
  refine lv_aload_n hx hb dX18_swab_13 rfl (lv_at hl 0 rfl) ?_
  refine lv_iconst (v := 1) hx hb dX18_swab_14 (by decide) ?_
  have hPc := (hP.app hR).sub (ws' := [(mm, .inr (24, .int 0 :: ([.ref stu, .ref cla, .ref pic, .ref act, .int 5, .int 50, .ref nts, .ref isn, .int 1600, .ref boa, .ref mas, .ref pai, .ref sol, .int 0, .ref bal, .ref leg])))] ++ []) [0] rfl
  have hDc := (en_DD hD hDr hN0 hAb).sub (ws' := [(mm, .inr (24, .int 0 :: ([.ref stu, .ref cla, .ref pic, .ref act, .int 5, .int 50, .ref nts, .ref isn, .int 1600, .ref boa, .ref mas, .ref pai, .ref sol, .int 0, .ref bal, .ref leg])))] ++ []) [0] (by decide) rfl
  have hKc := hK.sub (tys' := []) [] rfl
  have hFc := va_free (wc := [(mm, .inr (24, .int 0 :: ([.ref stu, .ref cla, .ref pic, .ref act, .int 5, .int 50, .ref nts, .ref isn, .int 1600, .ref boa, .ref mas, .ref pai, .ref sol, .int 0, .ref bal, .ref leg])))]) hD hS hA [0] rfl
  refine va_calli (va_runV (As := [.int 1]) (rest := []) ⟨hx, hb, hml, hown, hts⟩ (c_X18_fails l dC dI b0 en H.size mm 0 1 ([.ref stu, .ref cla, .ref pic, .ref act, .int 5, .int 50, .ref nts, .ref isn, .int 1600, .ref boa, .ref mas, .ref pai, .ref sol, .int 0, .ref bal, .ref leg])) (cwV 1 hts gX18_swab_X18_fails rfl rfl rfl (by decide +kernel) ⟨Nat.le_of_ble_eq_true rfl, Nat.le_of_ble_eq_true rfl⟩) ⟨cP.blind, va_recv hK hP (ci := 24) (q0 := 0) rfl rfl, cP.use (en_z hb0 hS) (hE.on hAb hS) hPc hKc hDc trivial⟩ rfl rfl hl.1 rfl (lv_room (Nat.le_of_ble_eq_true rfl)) dX18_swab_15 ⟨Nat.le_of_ble_eq_true rfl, Nat.le_of_ble_eq_true rfl⟩) hS (fun q _ h => hFc q h) hFc (fun r_3 u t H1 locs ht hvm hw hB hz1 hk1 hS => ?_)
  obtain ⟨hP1, hK1, hD1, hF1⟩ := hB
  rw [ht] at hP1
  try rw [ht] at hF1
  have hK1 := va_K.moved hvm.symm hK1
  try dsimp only at hw
  obtain ⟨hP, hD⟩ := va_join (wr := []) (w1 := [(mm, .inr (24, [.int 1, .ref stu, .ref cla, .ref pic, .ref act, .int 5, .int 50, .ref nts, .ref isn, .int 1600, .ref boa, .ref mas, .ref pai, .ref sol, .int 0, .ref bal, .ref leg]))]) hP hD [0] [] rfl rfl (by decide) (by decide) hk1 hFc hP1 hD1
  generalize H1 = H at hP hS ⊢
  have hP : va_P (dC, dI) vwCl [(mm, .inr (24, [.int 1, .ref stu, .ref cla, .ref pic, .ref act, .int 5, .int 50, .ref nts, .ref isn, .int 1600, .ref boa, .ref mas, .ref pai, .ref sol, .int 0, .ref bal, .ref leg]))] H := hP
  have hD : va_D A [(mm, .inr (24, [.int 1, .ref stu, .ref cla, .ref pic, .ref act, .int 5, .int 50, .ref nts, .ref isn, .int 1600, .ref boa, .ref mas, .ref pai, .ref sol, .int 0, .ref bal, .ref leg]))] := hD
  have hR := en_R hR0 hN0 hS
  refine W.widen (k := 0) (n := 0) (Nat.le_of_ble_eq_true rfl) (Nat.le_of_ble_eq_true rfl) ?_
  subst r_3
  refine W.widen (k := 0) (n := 0) (Nat.le_of_ble_eq_true rfl) (Nat.le_of_ble_eq_true rfl) ?_
  exact W.iret (v := 0) hx hb hr (fun t ht hW => ⟨⟨0, ⟨1, [.ref stu, .ref cla, .ref pic, .ref act, .int 5, .int 50, .ref nts, .ref isn, .int 1600, .ref boa, .ref mas, .ref pai, .ref sol, .int 0, .ref bal, .ref leg]⟩, rfl, (z_c_isEmpty0_22), cB.mk ht hW (hP.sub [0] rfl) (hK.sub [] rfl) (hD.sub [0] (by decide) rfl) (trivial)⟩, hS.F ht⟩) hS.2.2 dX18_swab_18

set_option maxHeartbeats 4000000 in
set_option maxRecDepth 100000 in
theorem c_X18_fill (l : Launch) (dC : Nat → ClassId) (dI : Nat → Nat → Nat) (b0 : Nat) (en : EnT) (sz : Nat) (mm stu cla pic act nts isn boa mas pai sol bal leg : Nat) (a b c9 : Int32) : Met l yX18_fill wsX18_fill ({ frames := 2, cells := 0, slots := 0, locals := 43 } : Room) (cP b0 en (dC, dI) [] [(mm, .inr (24, [.int 0, .ref stu, .ref cla, .ref pic, .ref act, .int 5, .int 50, .ref nts, .ref isn, .int 1600, .ref boa, .ref mas, .ref pai, .ref sol, .int 0, .ref bal, .ref leg]))] [(stu, .inr (5, [.int 0, .ref en.2.2.1, .int 0]))] sz (fun _ => True) [.ref mm, .int a, .int b, .int c9]) (va_Qi (fun (r : Int32) (u : Int32 × List Value) => u.1 = 1) (fun u t => cB (dC, dI) [] [(mm, .inr (24, .int u.1 :: u.2))] (va_A [(mm, .inr (24, [.int 0, .ref stu, .ref cla, .ref pic, .ref act, .int 5, .int 50, .ref nts, .ref isn, .int 1600, .ref boa, .ref mas, .ref pai, .ref sol, .int 0, .ref bal, .ref leg]))] sz) (fun _ => True) t) (va_A [(mm, .inr (24, [.int 0, .ref stu, .ref cla, .ref pic, .ref act, .int 5, .int 50, .ref nts, .ref isn, .int 1600, .ref boa, .ref mas, .ref pai, .ref sol, .int 0, .ref bal, .ref leg]))] sz)) 0 0 (va_A [(mm, .inr (24, [.int 0, .ref stu, .ref cla, .ref pic, .ref act, .int 5, .int 50, .ref nts, .ref isn, .int 1600, .ref boa, .ref mas, .ref pai, .ref sol, .int 0, .ref bal, .ref leg]))] sz) := by
  refine Met.ofW (cc := cX18_fill) (maxL := 4) (ret := (some .int)) (by decide) rfl ?_
  intro p e s m args below meth c s₁ B hml hv
  obtain ⟨rfl, hsz, hb0, hE, hPP, hK, hDD, hF0⟩ := hv
  have hx := B.exec
  have hb := B.bytes
  have hr := B.returns
  have hts := atoms_spec (ws := wsX18_fill) B.pre
  have hown : s.vm.findClass RX18 = some m.cls := findClass_of_methodNamed B.named
  have hlocks := B.notSynchronized
  subst hsz
  have hN0 := en_N hPP hDD rfl
  have hP : va_P (dC, dI) vwCl [(mm, .inr (24, [.int 0, .ref stu, .ref cla, .ref pic, .ref act, .int 5, .int 50, .ref nts, .ref isn, .int 1600, .ref boa, .ref mas, .ref pai, .ref sol, .int 0, .ref bal, .ref leg]))] s.heap := hPP.sub [0] rfl
  have hR0 : va_P (dC, dI) vwCl [(stu, .inr (5, [.int 0, .ref en.2.2.1, .int 0]))] s.heap := hPP.sub [1] rfl
  have hD0 : va_D (fun q => b0 ≤ q) [(mm, .inr (24, [.int 0, .ref stu, .ref cla, .ref pic, .ref act, .int 5, .int 50, .ref nts, .ref isn, .int 1600, .ref boa, .ref mas, .ref pai, .ref sol, .int 0, .ref bal, .ref leg]))] := hDD.sub [0] (by decide) rfl
  have hDr : va_D (fun q => b0 ≤ q) [(stu, .inr (5, [.int 0, .ref en.2.2.1, .int 0]))] := hDD.sub [1] (by decide) rfl
  have hAb := en_A (sz := s.heap.size) hD0 hb0
  have hD := hD0.self (sz := s.heap.size)
  generalize hAe : va_A [(mm, .inr (24, [.int 0, .ref stu, .ref cla, .ref pic, .ref act, .int 5, .int 50, .ref nts, .ref isn, .int 1600, .ref boa, .ref mas, .ref pai, .ref sol, .int 0, .ref bal, .ref leg]))] s.heap.size = A at hD hAb hN0 ⊢
  have hA : ∀ q : Nat, s.heap.size ≤ q → A q := fun q h => by rw [← hAe]; exact Or.inr h
  have hS : va_S A s.heap s.heap [] := va_S.rf
  have hR := hR0
  have hl := lv_entry [.ref mm, .int a, .int b, .int c9] (n := 4) (Nat.le_of_ble_eq_true rfl)
  rw [lg_entry_eq]
  generalize (lg_sl [.ref mm, .int a, .int b, .int c9] ++ List.replicate (4 - (lg_sl [.ref mm, .int a, .int b, .int c9]).length) Slot.unset).toArray = ls at hl ⊢
  have hl : lv_has ls 4 [(0, .ref mm), (1, .int a), (2, .int b), (3, .int c9)] := hl
  refine lv_aload_n hx hb dX18_fill_0 rfl (lv_at hl 0 rfl) ?_
  refine lv_iconst (v := 0) hx hb dX18_fill_1 (by decide) ?_
  refine va_put (D := (dC, dI)) (ci := 24) (v := .int 0) (ty := .int) (C := RX18) (T := TX18) (N := 17) hx hb hts (by decide +kernel) tyX18 tyX18_ok nmX18 hown hK hP hD hS 0 rfl rfl 0 (by decide) (hts (.fieldLink RX18 67 "UnderpaintModel" "code" "I") (by decide +kernel)) (fun _ h9 => h9) rfl (by decide +kernel) rfl rfl (Nat.le_of_ble_eq_true rfl) dX18_fill_2 (fun H locs hP hD hS => ?_)
  have hP : va_P (dC, dI) vwCl [(mm, .inr (24, [.int 0, .ref stu, .ref cla, .ref pic, .ref act, .int 5, .int 50, .ref nts, .ref isn, .int 1600, .ref boa, .ref mas, .ref pai, .ref sol, .int 0, .ref bal, .ref leg]))] H := hP
  have hD : va_D A [(mm, .inr (24, [.int 0, .ref stu, .ref cla, .ref pic, .ref act, .int 5, .int 50, .ref nts, .ref isn, .int 1600, .ref boa, .ref mas, .ref pai, .ref sol, .int 0, .ref bal, .ref leg]))] := hD
  have hR := en_R hR0 hN0 hS
  refine lv_aload_n hx hb dX18_fill_5 rfl (lv_at hl 0 rfl) ?_
  refine lv_iload_n hx hb dX18_fill_6 rfl (lv_at hl 1 rfl) ?_
  have hPc := (hP.app hR).sub (ws' := [] ++ [(mm, .inr (24, [.int 0, .ref stu, .ref cla, .ref pic, .ref act, .int 5, .int 50, .ref nts, .ref isn, .int 1600, .ref boa, .ref mas, .ref pai, .ref sol, .int 0, .ref bal, .ref leg])), (stu, .inr (5, [.int 0, .ref en.2.2.1, .int 0]))]) [0, 1] rfl
  have hDc := (en_DD hD hDr hN0 hAb).sub (ws' := [] ++ [(mm, .inr (24, [.int 0, .ref stu, .ref cla, .ref pic, .ref act, .int 5, .int 50, .ref nts, .ref isn, .int 1600, .ref boa, .ref mas, .ref pai, .ref sol, .int 0, .ref bal, .ref leg])), (stu, .inr (5, [.int 0, .ref en.2.2.1, .int 0]))]) [0, 1] (by decide) rfl
  have hKc := hK.sub (tys' := []) [] rfl
  have hFc := va_free (wc := []) hD hS hA [] rfl
  refine va_calli (va_runV (As := [.int a]) (rest := []) ⟨hx, hb, hml, hown, hts⟩ (c_X18_isStuff l dC dI b0 en H.size mm stu cla pic act nts isn boa mas pai sol bal leg a) (cwV 1 hts gX18_fill_X18_isStuff rfl rfl rfl (by decide +kernel) ⟨Nat.le_of_ble_eq_true rfl, Nat.le_of_ble_eq_true rfl⟩) ⟨cP.blind, va_recv hK hP (ci := 24) (q0 := 0) rfl rfl, cP.use (en_z hb0 hS) (hE.on hAb hS) hPc hKc hDc trivial⟩ rfl rfl hl.1 rfl (lv_room (Nat.le_of_ble_eq_true rfl)) dX18_fill_7 ⟨Nat.le_of_ble_eq_true rfl, Nat.le_of_ble_eq_true rfl⟩) hS (fun q _ h => hFc q h) hFc (fun r_1 u t H1 locs ht hvm hw hB hz1 hk1 hS => ?_)
  have hP1 : va_P (dC, dI) vwCl [] H1 := fun k q h => by simp at h
  have hD1 : va_D (va_A [] H.size) [] := ⟨fun i j p q h => by simp at h, fun k q h => by simp at h⟩
  try dsimp only at hw
  obtain ⟨hP, hD⟩ := va_join (wr := [(mm, .inr (24, [.int 0, .ref stu, .ref cla, .ref pic, .ref act, .int 5, .int 50, .ref nts, .ref isn, .int 1600, .ref boa, .ref mas, .ref pai, .ref sol, .int 0, .ref bal, .ref leg]))]) (w1 := []) hP hD [] [0] rfl rfl (by decide) (by decide) hk1 hFc hP1 hD1
  generalize H1 = H at hP hS ⊢
  have hP : va_P (dC, dI) vwCl [(mm, .inr (24, [.int 0, .ref stu, .ref cla, .ref pic, .ref act, .int 5, .int 50, .ref nts, .ref isn, .int 1600, .ref boa, .ref mas, .ref pai, .ref sol, .int 0, .ref bal, .ref leg]))] H := hP
  have hD : va_D A [(mm, .inr (24, [.int 0, .ref stu, .ref cla, .ref pic, .ref act, .int 5, .int 50, .ref nts, .ref isn, .int 1600, .ref boa, .ref mas, .ref pai, .ref sol, .int 0, .ref bal, .ref leg]))] := hD
  have hR := en_R hR0 hN0 hS
  refine W.widen (k := 0) (n := 0) (Nat.le_of_ble_eq_true rfl) (Nat.le_of_ble_eq_true rfl) ?_
  subst r_1
  refine lv_if_ne (tgt := 19) hx hb dX18_fill_10 (by decide) (fun c_2 => absurd c_2 (by decide)) (fun c_2 => ?_)
  refine lv_aload_n hx hb dX18_fill_13 rfl (lv_at hl 0 rfl) ?_
  refine lv_iconst (v := 1) hx hb dX18_fill_14 (by decide) ?_
  have hPc := (hP.app hR).sub (ws' := [(mm, .inr (24, .int 0 :: ([.ref stu, .ref cla, .ref pic, .ref act, .int 5, .int 50, .ref nts, .ref isn, .int 1600, .ref boa, .ref mas, .ref pai, .ref sol, .int 0, .ref bal, .ref leg])))] ++ []) [0] rfl
  have hDc := (en_DD hD hDr hN0 hAb).sub (ws' := [(mm, .inr (24, .int 0 :: ([.ref stu, .ref cla, .ref pic, .ref act, .int 5, .int 50, .ref nts, .ref isn, .int 1600, .ref boa, .ref mas, .ref pai, .ref sol, .int 0, .ref bal, .ref leg])))] ++ []) [0] (by decide) rfl
  have hKc := hK.sub (tys' := []) [] rfl
  have hFc := va_free (wc := [(mm, .inr (24, .int 0 :: ([.ref stu, .ref cla, .ref pic, .ref act, .int 5, .int 50, .ref nts, .ref isn, .int 1600, .ref boa, .ref mas, .ref pai, .ref sol, .int 0, .ref bal, .ref leg])))]) hD hS hA [0] rfl
  refine va_calli (va_runV (As := [.int 1]) (rest := []) ⟨hx, hb, hml, hown, hts⟩ (c_X18_fails l dC dI b0 en H.size mm 0 1 ([.ref stu, .ref cla, .ref pic, .ref act, .int 5, .int 50, .ref nts, .ref isn, .int 1600, .ref boa, .ref mas, .ref pai, .ref sol, .int 0, .ref bal, .ref leg])) (cwV 1 hts gX18_fill_X18_fails rfl rfl rfl (by decide +kernel) ⟨Nat.le_of_ble_eq_true rfl, Nat.le_of_ble_eq_true rfl⟩) ⟨cP.blind, va_recv hK hP (ci := 24) (q0 := 0) rfl rfl, cP.use (en_z hb0 hS) (hE.on hAb hS) hPc hKc hDc trivial⟩ rfl rfl hl.1 rfl (lv_room (Nat.le_of_ble_eq_true rfl)) dX18_fill_15 ⟨Nat.le_of_ble_eq_true rfl, Nat.le_of_ble_eq_true rfl⟩) hS (fun q _ h => hFc q h) hFc (fun r_3 u t H1 locs ht hvm hw hB hz1 hk1 hS => ?_)
  obtain ⟨hP1, hK1, hD1, hF1⟩ := hB
  rw [ht] at hP1
  try rw [ht] at hF1
  have hK1 := va_K.moved hvm.symm hK1
  try dsimp only at hw
  obtain ⟨hP, hD⟩ := va_join (wr := []) (w1 := [(mm, .inr (24, [.int 1, .ref stu, .ref cla, .ref pic, .ref act, .int 5, .int 50, .ref nts, .ref isn, .int 1600, .ref boa, .ref mas, .ref pai, .ref sol, .int 0, .ref bal, .ref leg]))]) hP hD [0] [] rfl rfl (by decide) (by decide) hk1 hFc hP1 hD1
  generalize H1 = H at hP hS ⊢
  have hP : va_P (dC, dI) vwCl [(mm, .inr (24, [.int 1, .ref stu, .ref cla, .ref pic, .ref act, .int 5, .int 50, .ref nts, .ref isn, .int 1600, .ref boa, .ref mas, .ref pai, .ref sol, .int 0, .ref bal, .ref leg]))] H := hP
  have hD : va_D A [(mm, .inr (24, [.int 1, .ref stu, .ref cla, .ref pic, .ref act, .int 5, .int 50, .ref nts, .ref isn, .int 1600, .ref boa, .ref mas, .ref pai, .ref sol, .int 0, .ref bal, .ref leg]))] := hD
  have hR := en_R hR0 hN0 hS
  refine W.widen (k := 0) (n := 0) (Nat.le_of_ble_eq_true rfl) (Nat.le_of_ble_eq_true rfl) ?_
  subst r_3
  refine W.widen (k := 0) (n := 0) (Nat.le_of_ble_eq_true rfl) (Nat.le_of_ble_eq_true rfl) ?_
  exact W.iret (v := 0) hx hb hr (fun t ht hW => ⟨⟨0, ⟨1, [.ref stu, .ref cla, .ref pic, .ref act, .int 5, .int 50, .ref nts, .ref isn, .int 1600, .ref boa, .ref mas, .ref pai, .ref sol, .int 0, .ref bal, .ref leg]⟩, rfl, (z_c_isEmpty0_22), cB.mk ht hW (hP.sub [0] rfl) (hK.sub [] rfl) (hD.sub [0] (by decide) rfl) (trivial)⟩, hS.F ht⟩) hS.2.2 dX18_fill_18

set_option maxHeartbeats 4000000 in
set_option maxRecDepth 100000 in
theorem c_X18_retouch (l : Launch) (dC : Nat → ClassId) (dI : Nat → Nat → Nat) (b0 : Nat) (en : EnT) (sz : Nat) (mm stu cla pic act nts isn boa mas pai sol bal leg : Nat) (a b c9 d : Int32) : Met l yX18_retouch wsX18_retouch ({ frames := 2, cells := 0, slots := 0, locals := 43 } : Room) (cP b0 en (dC, dI) [] [(mm, .inr (24, [.int 0, .ref stu, .ref cla, .ref pic, .ref act, .int 5, .int 50, .ref nts, .ref isn, .int 1600, .ref boa, .ref mas, .ref pai, .ref sol, .int 0, .ref bal, .ref leg]))] [(stu, .inr (5, [.int 0, .ref en.2.2.1, .int 0]))] sz (fun _ => True) [.ref mm, .int a, .int b, .int c9, .int d]) (va_Qi (fun (r : Int32) (u : Int32 × List Value) => u.1 = 1) (fun u t => cB (dC, dI) [] [(mm, .inr (24, .int u.1 :: u.2))] (va_A [(mm, .inr (24, [.int 0, .ref stu, .ref cla, .ref pic, .ref act, .int 5, .int 50, .ref nts, .ref isn, .int 1600, .ref boa, .ref mas, .ref pai, .ref sol, .int 0, .ref bal, .ref leg]))] sz) (fun _ => True) t) (va_A [(mm, .inr (24, [.int 0, .ref stu, .ref cla, .ref pic, .ref act, .int 5, .int 50, .ref nts, .ref isn, .int 1600, .ref boa, .ref mas, .ref pai, .ref sol, .int 0, .ref bal, .ref leg]))] sz)) 0 0 (va_A [(mm, .inr (24, [.int 0, .ref stu, .ref cla, .ref pic, .ref act, .int 5, .int 50, .ref nts, .ref isn, .int 1600, .ref boa, .ref mas, .ref pai, .ref sol, .int 0, .ref bal, .ref leg]))] sz) := by
  refine Met.ofW (cc := cX18_retouch) (maxL := 5) (ret := (some .int)) (by decide) rfl ?_
  intro p e s m args below meth c s₁ B hml hv
  obtain ⟨rfl, hsz, hb0, hE, hPP, hK, hDD, hF0⟩ := hv
  have hx := B.exec
  have hb := B.bytes
  have hr := B.returns
  have hts := atoms_spec (ws := wsX18_retouch) B.pre
  have hown : s.vm.findClass RX18 = some m.cls := findClass_of_methodNamed B.named
  have hlocks := B.notSynchronized
  subst hsz
  have hN0 := en_N hPP hDD rfl
  have hP : va_P (dC, dI) vwCl [(mm, .inr (24, [.int 0, .ref stu, .ref cla, .ref pic, .ref act, .int 5, .int 50, .ref nts, .ref isn, .int 1600, .ref boa, .ref mas, .ref pai, .ref sol, .int 0, .ref bal, .ref leg]))] s.heap := hPP.sub [0] rfl
  have hR0 : va_P (dC, dI) vwCl [(stu, .inr (5, [.int 0, .ref en.2.2.1, .int 0]))] s.heap := hPP.sub [1] rfl
  have hD0 : va_D (fun q => b0 ≤ q) [(mm, .inr (24, [.int 0, .ref stu, .ref cla, .ref pic, .ref act, .int 5, .int 50, .ref nts, .ref isn, .int 1600, .ref boa, .ref mas, .ref pai, .ref sol, .int 0, .ref bal, .ref leg]))] := hDD.sub [0] (by decide) rfl
  have hDr : va_D (fun q => b0 ≤ q) [(stu, .inr (5, [.int 0, .ref en.2.2.1, .int 0]))] := hDD.sub [1] (by decide) rfl
  have hAb := en_A (sz := s.heap.size) hD0 hb0
  have hD := hD0.self (sz := s.heap.size)
  generalize hAe : va_A [(mm, .inr (24, [.int 0, .ref stu, .ref cla, .ref pic, .ref act, .int 5, .int 50, .ref nts, .ref isn, .int 1600, .ref boa, .ref mas, .ref pai, .ref sol, .int 0, .ref bal, .ref leg]))] s.heap.size = A at hD hAb hN0 ⊢
  have hA : ∀ q : Nat, s.heap.size ≤ q → A q := fun q h => by rw [← hAe]; exact Or.inr h
  have hS : va_S A s.heap s.heap [] := va_S.rf
  have hR := hR0
  have hl := lv_entry [.ref mm, .int a, .int b, .int c9, .int d] (n := 5) (Nat.le_of_ble_eq_true rfl)
  rw [lg_entry_eq]
  generalize (lg_sl [.ref mm, .int a, .int b, .int c9, .int d] ++ List.replicate (5 - (lg_sl [.ref mm, .int a, .int b, .int c9, .int d]).length) Slot.unset).toArray = ls at hl ⊢
  have hl : lv_has ls 5 [(0, .ref mm), (1, .int a), (2, .int b), (3, .int c9), (4, .int d)] := hl
  refine lv_aload_n hx hb dX18_retouch_0 rfl (lv_at hl 0 rfl) ?_
  refine lv_iconst (v := 0) hx hb dX18_retouch_1 (by decide) ?_
  refine va_put (D := (dC, dI)) (ci := 24) (v := .int 0) (ty := .int) (C := RX18) (T := TX18) (N := 17) hx hb hts (by decide +kernel) tyX18 tyX18_ok nmX18 hown hK hP hD hS 0 rfl rfl 0 (by decide) (hts (.fieldLink RX18 67 "UnderpaintModel" "code" "I") (by decide +kernel)) (fun _ h9 => h9) rfl (by decide +kernel) rfl rfl (Nat.le_of_ble_eq_true rfl) dX18_retouch_2 (fun H locs hP hD hS => ?_)
  have hP : va_P (dC, dI) vwCl [(mm, .inr (24, [.int 0, .ref stu, .ref cla, .ref pic, .ref act, .int 5, .int 50, .ref nts, .ref isn, .int 1600, .ref boa, .ref mas, .ref pai, .ref sol, .int 0, .ref bal, .ref leg]))] H := hP
  have hD : va_D A [(mm, .inr (24, [.int 0, .ref stu, .ref cla, .ref pic, .ref act, .int 5, .int 50, .ref nts, .ref isn, .int 1600, .ref boa, .ref mas, .ref pai, .ref sol, .int 0, .ref bal, .ref leg]))] := hD
  have hR := en_R hR0 hN0 hS
  refine lv_aload_n hx hb dX18_retouch_5 rfl (lv_at hl 0 rfl) ?_
  refine lv_iload_n hx hb dX18_retouch_6 rfl (lv_at hl 1 rfl) ?_
  have hPc := (hP.app hR).sub (ws' := [] ++ [(mm, .inr (24, [.int 0, .ref stu, .ref cla, .ref pic, .ref act, .int 5, .int 50, .ref nts, .ref isn, .int 1600, .ref boa, .ref mas, .ref pai, .ref sol, .int 0, .ref bal, .ref leg])), (stu, .inr (5, [.int 0, .ref en.2.2.1, .int 0]))]) [0, 1] rfl
  have hDc := (en_DD hD hDr hN0 hAb).sub (ws' := [] ++ [(mm, .inr (24, [.int 0, .ref stu, .ref cla, .ref pic, .ref act, .int 5, .int 50, .ref nts, .ref isn, .int 1600, .ref boa, .ref mas, .ref pai, .ref sol, .int 0, .ref bal, .ref leg])), (stu, .inr (5, [.int 0, .ref en.2.2.1, .int 0]))]) [0, 1] (by decide) rfl
  have hKc := hK.sub (tys' := []) [] rfl
  have hFc := va_free (wc := []) hD hS hA [] rfl
  refine va_calli (va_runV (As := [.int a]) (rest := []) ⟨hx, hb, hml, hown, hts⟩ (c_X18_isStuff l dC dI b0 en H.size mm stu cla pic act nts isn boa mas pai sol bal leg a) (cwV 1 hts gX18_retouch_X18_isStuff rfl rfl rfl (by decide +kernel) ⟨Nat.le_of_ble_eq_true rfl, Nat.le_of_ble_eq_true rfl⟩) ⟨cP.blind, va_recv hK hP (ci := 24) (q0 := 0) rfl rfl, cP.use (en_z hb0 hS) (hE.on hAb hS) hPc hKc hDc trivial⟩ rfl rfl hl.1 rfl (lv_room (Nat.le_of_ble_eq_true rfl)) dX18_retouch_7 ⟨Nat.le_of_ble_eq_true rfl, Nat.le_of_ble_eq_true rfl⟩) hS (fun q _ h => hFc q h) hFc (fun r_1 u t H1 locs ht hvm hw hB hz1 hk1 hS => ?_)
  have hP1 : va_P (dC, dI) vwCl [] H1 := fun k q h => by simp at h
  have hD1 : va_D (va_A [] H.size) [] := ⟨fun i j p q h => by simp at h, fun k q h => by simp at h⟩
  try dsimp only at hw
  obtain ⟨hP, hD⟩ := va_join (wr := [(mm, .inr (24, [.int 0, .ref stu, .ref cla, .ref pic, .ref act, .int 5, .int 50, .ref nts, .ref isn, .int 1600, .ref boa, .ref mas, .ref pai, .ref sol, .int 0, .ref bal, .ref leg]))]) (w1 := []) hP hD [] [0] rfl rfl (by decide) (by decide) hk1 hFc hP1 hD1
  generalize H1 = H at hP hS ⊢
  have hP : va_P (dC, dI) vwCl [(mm, .inr (24, [.int 0, .ref stu, .ref cla, .ref pic, .ref act, .int 5, .int 50, .ref nts, .ref isn, .int 1600, .ref boa, .ref mas, .ref pai, .ref sol, .int 0, .ref bal, .ref leg]))] H := hP
  have hD : va_D A [(mm, .inr (24, [.int 0, .ref stu, .ref cla, .ref pic, .ref act, .int 5, .int 50, .ref nts, .ref isn, .int 1600, .ref boa, .ref mas, .ref pai, .ref sol, .int 0, .ref bal, .ref leg]))] := hD
  have hR := en_R hR0 hN0 hS
  refine W.widen (k := 0) (n := 0) (Nat.le_of_ble_eq_true rfl) (Nat.le_of_ble_eq_true rfl) ?_
  subst r_1
  refine lv_if_ne (tgt := 19) hx hb dX18_retouch_10 (by decide) (fun c_2 => absurd c_2 (by decide)) (fun c_2 => ?_)
  refine lv_aload_n hx hb dX18_retouch_13 rfl (lv_at hl 0 rfl) ?_
  refine lv_iconst (v := 1) hx hb dX18_retouch_14 (by decide) ?_
  have hPc := (hP.app hR).sub (ws' := [(mm, .inr (24, .int 0 :: ([.ref stu, .ref cla, .ref pic, .ref act, .int 5, .int 50, .ref nts, .ref isn, .int 1600, .ref boa, .ref mas, .ref pai, .ref sol, .int 0, .ref bal, .ref leg])))] ++ []) [0] rfl
  have hDc := (en_DD hD hDr hN0 hAb).sub (ws' := [(mm, .inr (24, .int 0 :: ([.ref stu, .ref cla, .ref pic, .ref act, .int 5, .int 50, .ref nts, .ref isn, .int 1600, .ref boa, .ref mas, .ref pai, .ref sol, .int 0, .ref bal, .ref leg])))] ++ []) [0] (by decide) rfl
  have hKc := hK.sub (tys' := []) [] rfl
  have hFc := va_free (wc := [(mm, .inr (24, .int 0 :: ([.ref stu, .ref cla, .ref pic, .ref act, .int 5, .int 50, .ref nts, .ref isn, .int 1600, .ref boa, .ref mas, .ref pai, .ref sol, .int 0, .ref bal, .ref leg])))]) hD hS hA [0] rfl
  refine va_calli (va_runV (As := [.int 1]) (rest := []) ⟨hx, hb, hml, hown, hts⟩ (c_X18_fails l dC dI b0 en H.size mm 0 1 ([.ref stu, .ref cla, .ref pic, .ref act, .int 5, .int 50, .ref nts, .ref isn, .int 1600, .ref boa, .ref mas, .ref pai, .ref sol, .int 0, .ref bal, .ref leg])) (cwV 1 hts gX18_retouch_X18_fails rfl rfl rfl (by decide +kernel) ⟨Nat.le_of_ble_eq_true rfl, Nat.le_of_ble_eq_true rfl⟩) ⟨cP.blind, va_recv hK hP (ci := 24) (q0 := 0) rfl rfl, cP.use (en_z hb0 hS) (hE.on hAb hS) hPc hKc hDc trivial⟩ rfl rfl hl.1 rfl (lv_room (Nat.le_of_ble_eq_true rfl)) dX18_retouch_15 ⟨Nat.le_of_ble_eq_true rfl, Nat.le_of_ble_eq_true rfl⟩) hS (fun q _ h => hFc q h) hFc (fun r_3 u t H1 locs ht hvm hw hB hz1 hk1 hS => ?_)
  obtain ⟨hP1, hK1, hD1, hF1⟩ := hB
  rw [ht] at hP1
  try rw [ht] at hF1
  have hK1 := va_K.moved hvm.symm hK1
  try dsimp only at hw
  obtain ⟨hP, hD⟩ := va_join (wr := []) (w1 := [(mm, .inr (24, [.int 1, .ref stu, .ref cla, .ref pic, .ref act, .int 5, .int 50, .ref nts, .ref isn, .int 1600, .ref boa, .ref mas, .ref pai, .ref sol, .int 0, .ref bal, .ref leg]))]) hP hD [0] [] rfl rfl (by decide) (by decide) hk1 hFc hP1 hD1
  generalize H1 = H at hP hS ⊢
  have hP : va_P (dC, dI) vwCl [(mm, .inr (24, [.int 1, .ref stu, .ref cla, .ref pic, .ref act, .int 5, .int 50, .ref nts, .ref isn, .int 1600, .ref boa, .ref mas, .ref pai, .ref sol, .int 0, .ref bal, .ref leg]))] H := hP
  have hD : va_D A [(mm, .inr (24, [.int 1, .ref stu, .ref cla, .ref pic, .ref act, .int 5, .int 50, .ref nts, .ref isn, .int 1600, .ref boa, .ref mas, .ref pai, .ref sol, .int 0, .ref bal, .ref leg]))] := hD
  have hR := en_R hR0 hN0 hS
  refine W.widen (k := 0) (n := 0) (Nat.le_of_ble_eq_true rfl) (Nat.le_of_ble_eq_true rfl) ?_
  subst r_3
  refine W.widen (k := 0) (n := 0) (Nat.le_of_ble_eq_true rfl) (Nat.le_of_ble_eq_true rfl) ?_
  exact W.iret (v := 0) hx hb hr (fun t ht hW => ⟨⟨0, ⟨1, [.ref stu, .ref cla, .ref pic, .ref act, .int 5, .int 50, .ref nts, .ref isn, .int 1600, .ref boa, .ref mas, .ref pai, .ref sol, .int 0, .ref bal, .ref leg]⟩, rfl, (z_c_isEmpty0_22), cB.mk ht hW (hP.sub [0] rfl) (hK.sub [] rfl) (hD.sub [0] (by decide) rfl) (trivial)⟩, hS.F ht⟩) hS.2.2 dX18_retouch_18

set_option maxHeartbeats 4000000 in
set_option maxRecDepth 100000 in
theorem c_X18_liesOver (l : Launch) (dC : Nat → ClassId) (dI : Nat → Nat → Nat) (b0 : Nat) (en : EnT) (sz : Nat) (mm stu cla pic act nts isn boa mas pai sol bal leg : Nat) (ap scr : Nat) (a b : Int32) : Met l yX18_liesOver wsX18_liesOver ({ frames := 2, cells := 0, slots := 0, locals := 43 } : Room) (cP b0 en (dC, dI) [] [(mm, .inr (24, [.int 0, .ref stu, .ref cla, .ref pic, .ref act, .int 5, .int 50, .ref nts, .ref isn, .int 1600, .ref boa, .ref mas, .ref pai, .ref sol, .int 0, .ref bal, .ref leg]))] [(pic, .inr (20, [.ref ap, .ref scr, .int 1600, .int 0, .int 0, .ref mm])), (scr, .inr (5, [.int 0, .ref en.2.2.1, .int 0]))] sz (fun _ => True) [.ref mm, .int a, .int b]) (va_Qi (fun (r : Int32) (u : Int32 × List Value) => u.1 = 1) (fun u t => cB (dC, dI) [] [(mm, .inr (24, .int u.1 :: u.2))] (va_A [(mm, .inr (24, [.int 0, .ref stu, .ref cla, .ref pic, .ref act, .int 5, .int 50, .ref nts, .ref isn, .int 1600, .ref boa, .ref mas, .ref pai, .ref sol, .int 0, .ref bal, .ref leg]))] sz) (fun _ => True) t) (va_A [(mm, .inr (24, [.int 0, .ref stu, .ref cla, .ref pic, .ref act, .int 5, .int 50, .ref nts, .ref isn, .int 1600, .ref boa, .ref mas, .ref pai, .ref sol, .int 0, .ref bal, .ref leg]))] sz)) 0 0 (va_A [(mm, .inr (24, [.int 0, .ref stu, .ref cla, .ref pic, .ref act, .int 5, .int 50, .ref nts, .ref isn, .int 1600, .ref boa, .ref mas, .ref pai, .ref sol, .int 0, .ref bal, .ref leg]))] sz) := by
  refine Met.ofW (cc := cX18_liesOver) (maxL := 4) (ret := (some .boolean)) (by decide) rfl ?_
  intro p e s m args below meth c s₁ B hml hv
  obtain ⟨rfl, hsz, hb0, hE, hPP, hK, hDD, hF0⟩ := hv
  have hx := B.exec
  have hb := B.bytes
  have hr := B.returns
  have hts := atoms_spec (ws := wsX18_liesOver) B.pre
  have hown : s.vm.findClass RX18 = some m.cls := findClass_of_methodNamed B.named
  have hlocks := B.notSynchronized
  subst hsz
  have hN0 := en_N hPP hDD rfl
  have hP : va_P (dC, dI) vwCl [(mm, .inr (24, [.int 0, .ref stu, .ref cla, .ref pic, .ref act, .int 5, .int 50, .ref nts, .ref isn, .int 1600, .ref boa, .ref mas, .ref pai, .ref sol, .int 0, .ref bal, .ref leg]))] s.heap := hPP.sub [0] rfl
  have hR0 : va_P (dC, dI) vwCl [(pic, .inr (20, [.ref ap, .ref scr, .int 1600, .int 0, .int 0, .ref mm])), (scr, .inr (5, [.int 0, .ref en.2.2.1, .int 0]))] s.heap := hPP.sub [1, 2] rfl
  have hD0 : va_D (fun q => b0 ≤ q) [(mm, .inr (24, [.int 0, .ref stu, .ref cla, .ref pic, .ref act, .int 5, .int 50, .ref nts, .ref isn, .int 1600, .ref boa, .ref mas, .ref pai, .ref sol, .int 0, .ref bal, .ref leg]))] := hDD.sub [0] (by decide) rfl
  have hDr : va_D (fun q => b0 ≤ q) [(pic, .inr (20, [.ref ap, .ref scr, .int 1600, .int 0, .int 0, .ref mm])), (scr, .inr (5, [.int 0, .ref en.2.2.1, .int 0]))] := hDD.sub [1, 2] (by decide) rfl
  have hAb := en_A (sz := s.heap.size) hD0 hb0
  have hD := hD0.self (sz := s.heap.size)
  generalize hAe : va_A [(mm, .inr (24, [.int 0, .ref stu, .ref cla, .ref pic, .ref act, .int 5, .int 50, .ref nts, .ref isn, .int 1600, .ref boa, .ref mas, .ref pai, .ref sol, .int 0, .ref bal, .ref leg]))] s.heap.size = A at hD hAb hN0 ⊢
  have hA : ∀ q : Nat, s.heap.size ≤ q → A q := fun q h => by rw [← hAe]; exact Or.inr h
  have hS : va_S A s.heap s.heap [] := va_S.rf
  have hR := hR0
  have hl := lv_entry [.ref mm, .int a, .int b] (n := 4) (Nat.le_of_ble_eq_true rfl)
  rw [lg_entry_eq]
  generalize (lg_sl [.ref mm, .int a, .int b] ++ List.replicate (4 - (lg_sl [.ref mm, .int a, .int b]).length) Slot.unset).toArray = ls at hl ⊢
  have hl : lv_has ls 4 [(0, .ref mm), (1, .int a), (2, .int b)] := hl
  refine lv_aload_n hx hb dX18_liesOver_0 rfl (lv_at hl 0 rfl) ?_
  refine lv_iload_n hx hb dX18_liesOver_1 rfl (lv_at hl 1 rfl) ?_
  have hPc := (hP.app hR).sub (ws' := [] ++ [(mm, .inr (24, [.int 0, .ref stu, .ref cla, .ref pic, .ref act, .int 5, .int 50, .ref nts, .ref isn, .int 1600, .ref boa, .ref mas, .ref pai, .ref sol, .int 0, .ref bal, .ref leg])), (pic, .inr (20, [.ref ap, .ref scr, .int 1600, .int 0, .int 0, .ref mm])), (scr, .inr (5, [.int 0, .ref en.2.2.1, .int 0]))]) [0, 1, 2] rfl
  have hDc := (en_DD hD hDr hN0 hAb).sub (ws' := [] ++ [(mm, .inr (24, [.int 0, .ref stu, .ref cla, .ref pic, .ref act, .int 5, .int 50, .ref nts, .ref isn, .int 1600, .ref boa, .ref mas, .ref pai, .ref sol, .int 0, .ref bal, .ref leg])), (pic, .inr (20, [.ref ap, .ref scr, .int 1600, .int 0, .int 0, .ref mm])), (scr, .inr (5, [.int 0, .ref en.2.2.1, .int 0]))]) [0, 1, 2] (by decide) rfl
  have hKc := hK.sub (tys' := []) [] rfl
  have hFc := va_free (wc := []) hD hS hA [] rfl
  refine va_calli (va_runV (As := [.int a]) (rest := []) ⟨hx, hb, hml, hown, hts⟩ (c_X18_isScratch l dC dI b0 en s.heap.size mm stu cla pic act nts isn boa mas pai sol bal leg ap scr a) (cwV 1 hts gX18_liesOver_X18_isScratch rfl rfl rfl (by decide +kernel) ⟨Nat.le_of_ble_eq_true rfl, Nat.le_of_ble_eq_true rfl⟩) ⟨cP.blind, va_recv hK hP (ci := 24) (q0 := 0) rfl rfl, cP.use (en_z hb0 hS) (hE.on hAb hS) hPc hKc hDc trivial⟩ rfl rfl hl.1 rfl (lv_room (Nat.le_of_ble_eq_true rfl)) dX18_liesOver_2 ⟨Nat.le_of_ble_eq_true rfl, Nat.le_of_ble_eq_true rfl⟩) hS (fun q _ h => hFc q h) hFc (fun r_1 u t H1 locs ht hvm hw hB hz1 hk1 hS => ?_)
  have hP1 : va_P (dC, dI) vwCl [] H1 := fun k q h => by simp at h
  have hD1 : va_D (va_A [] s.heap.size) [] := ⟨fun i j p q h => by simp at h, fun k q h => by simp at h⟩
  try dsimp only at hw
  obtain ⟨hP, hD⟩ := va_join (wr := [(mm, .inr (24, [.int 0, .ref stu, .ref cla, .ref pic, .ref act, .int 5, .int 50, .ref nts, .ref isn, .int 1600, .ref boa, .ref mas, .ref pai, .ref sol, .int 0, .ref bal, .ref leg]))]) (w1 := []) hP hD [] [0] rfl rfl (by decide) (by decide) hk1 hFc hP1 hD1
  generalize H1 = H at hP hS ⊢
  have hP : va_P (dC, dI) vwCl [(mm, .inr (24, [.int 0, .ref stu, .ref cla, .ref pic, .ref act, .int 5, .int 50, .ref nts, .ref isn, .int 1600, .ref boa, .ref mas, .ref pai, .ref sol, .int 0, .ref bal, .ref leg]))] H := hP
  have hD : va_D A [(mm, .inr (24, [.int 0, .ref stu, .ref cla, .ref pic, .ref act, .int 5, .int 50, .ref nts, .ref isn, .int 1600, .ref boa, .ref mas, .ref pai, .ref sol, .int 0, .ref bal, .ref leg]))] := hD
  have hR := en_R hR0 hN0 hS
  refine W.widen (k := 0) (n := 0) (Nat.le_of_ble_eq_true rfl) (Nat.le_of_ble_eq_true rfl) ?_
  subst r_1
  refine lv_if_ne (tgt := 14) hx hb dX18_liesOver_5 (by decide) (fun c_2 => absurd c_2 (by decide)) (fun c_2 => ?_)
  refine lv_aload_n hx hb dX18_liesOver_8 rfl (lv_at hl 0 rfl) ?_
  refine lv_iconst (v := 1) hx hb dX18_liesOver_9 (by decide) ?_
  have hPc := (hP.app hR).sub (ws' := [(mm, .inr (24, .int 0 :: ([.ref stu, .ref cla, .ref pic, .ref act, .int 5, .int 50, .ref nts, .ref isn, .int 1600, .ref boa, .ref mas, .ref pai, .ref sol, .int 0, .ref bal, .ref leg])))] ++ []) [0] rfl
  have hDc := (en_DD hD hDr hN0 hAb).sub (ws' := [(mm, .inr (24, .int 0 :: ([.ref stu, .ref cla, .ref pic, .ref act, .int 5, .int 50, .ref nts, .ref isn, .int 1600, .ref boa, .ref mas, .ref pai, .ref sol, .int 0, .ref bal, .ref leg])))] ++ []) [0] (by decide) rfl
  have hKc := hK.sub (tys' := []) [] rfl
  have hFc := va_free (wc := [(mm, .inr (24, .int 0 :: ([.ref stu, .ref cla, .ref pic, .ref act, .int 5, .int 50, .ref nts, .ref isn, .int 1600, .ref boa, .ref mas, .ref pai, .ref sol, .int 0, .ref bal, .ref leg])))]) hD hS hA [0] rfl
  refine va_calli (va_runV (As := [.int 1]) (rest := []) ⟨hx, hb, hml, hown, hts⟩ (c_X18_failsBoolean l dC dI b0 en H.size mm 0 1 ([.ref stu, .ref cla, .ref pic, .ref act, .int 5, .int 50, .ref nts, .ref isn, .int 1600, .ref boa, .ref mas, .ref pai, .ref sol, .int 0, .ref bal, .ref leg])) (cwV 1 hts gX18_liesOver_X18_failsBoolean rfl rfl rfl (by decide +kernel) ⟨Nat.le_of_ble_eq_true rfl, Nat.le_of_ble_eq_true rfl⟩) ⟨cP.blind, va_recv hK hP (ci := 24) (q0 := 0) rfl rfl, cP.use (en_z hb0 hS) (hE.on hAb hS) hPc hKc hDc trivial⟩ rfl rfl hl.1 rfl (lv_room (Nat.le_of_ble_eq_true rfl)) dX18_liesOver_10 ⟨Nat.le_of_ble_eq_true rfl, Nat.le_of_ble_eq_true rfl⟩) hS (fun q _ h => hFc q h) hFc (fun r_3 u t H1 locs ht hvm hw hB hz1 hk1 hS => ?_)
  obtain ⟨hP1, hK1, hD1, hF1⟩ := hB
  rw [ht] at hP1
  try rw [ht] at hF1
  have hK1 := va_K.moved hvm.symm hK1
  try dsimp only at hw
  obtain ⟨hP, hD⟩ := va_join (wr := []) (w1 := [(mm, .inr (24, [.int 1, .ref stu, .ref cla, .ref pic, .ref act, .int 5, .int 50, .ref nts, .ref isn, .int 1600, .ref boa, .ref mas, .ref pai, .ref sol, .int 0, .ref bal, .ref leg]))]) hP hD [0] [] rfl rfl (by decide) (by decide) hk1 hFc hP1 hD1
  generalize H1 = H at hP hS ⊢
  have hP : va_P (dC, dI) vwCl [(mm, .inr (24, [.int 1, .ref stu, .ref cla, .ref pic, .ref act, .int 5, .int 50, .ref nts, .ref isn, .int 1600, .ref boa, .ref mas, .ref pai, .ref sol, .int 0, .ref bal, .ref leg]))] H := hP
  have hD : va_D A [(mm, .inr (24, [.int 1, .ref stu, .ref cla, .ref pic, .ref act, .int 5, .int 50, .ref nts, .ref isn, .int 1600, .ref boa, .ref mas, .ref pai, .ref sol, .int 0, .ref bal, .ref leg]))] := hD
  have hR := en_R hR0 hN0 hS
  refine W.widen (k := 0) (n := 0) (Nat.le_of_ble_eq_true rfl) (Nat.le_of_ble_eq_true rfl) ?_
  subst r_3
  refine W.widen (k := 0) (n := 0) (Nat.le_of_ble_eq_true rfl) (Nat.le_of_ble_eq_true rfl) ?_
  exact W.zret (v := 0) hx hb hr (by first | rfl | decide +kernel) (fun t ht hW => ⟨⟨0, ⟨1, [.ref stu, .ref cla, .ref pic, .ref act, .int 5, .int 50, .ref nts, .ref isn, .int 1600, .ref boa, .ref mas, .ref pai, .ref sol, .int 0, .ref bal, .ref leg]⟩, rfl, (z_c_isEmpty0_22), cB.mk ht hW (hP.sub [0] rfl) (hK.sub [] rfl) (hD.sub [0] (by decide) rfl) (trivial)⟩, hS.F ht⟩) hS.2.2 dX18_liesOver_13

set_option maxHeartbeats 4000000 in
set_option maxRecDepth 100000 in
theorem c_X18_later (l : Launch) (dC : Nat → ClassId) (dI : Nat → Nat → Nat) (b0 : Nat) (en : EnT) (sz : Nat) (mm stu cla pic act nts isn boa mas pai sol bal leg : Nat) (ap scr : Nat) (a b : Int32) : Met l yX18_later wsX18_later ({ frames := 2, cells := 0, slots := 0, locals := 43 } : Room) (cP b0 en (dC, dI) [] [(mm, .inr (24, [.int 0, .ref stu, .ref cla, .ref pic, .ref act, .int 5, .int 50, .ref nts, .ref isn, .int 1600, .ref boa, .ref mas, .ref pai, .ref sol, .int 0, .ref bal, .ref leg]))] [(pic, .inr (20, [.ref ap, .ref scr, .int 1600, .int 0, .int 0, .ref mm])), (scr, .inr (5, [.int 0, .ref en.2.2.1, .int 0]))] sz (fun _ => True) [.ref mm, .int a, .int b]) (va_Qi (fun (r : Int32) (u : Int32 × List Value) => u.1 = 1) (fun u t => cB (dC, dI) [] [(mm, .inr (24, .int u.1 :: u.2))] (va_A [(mm, .inr (24, [.int 0, .ref stu, .ref cla, .ref pic, .ref act, .int 5, .int 50, .ref nts, .ref isn, .int 1600, .ref boa, .ref mas, .ref pai, .ref sol, .int 0, .ref bal, .ref leg]))] sz) (fun _ => True) t) (va_A [(mm, .inr (24, [.int 0, .ref stu, .ref cla, .ref pic, .ref act, .int 5, .int 50, .ref nts, .ref isn, .int 1600, .ref boa, .ref mas, .ref pai, .ref sol, .int 0, .ref bal, .ref leg]))] sz)) 0 0 (va_A [(mm, .inr (24, [.int 0, .ref stu, .ref cla, .ref pic, .ref act, .int 5, .int 50, .ref nts, .ref isn, .int 1600, .ref boa, .ref mas, .ref pai, .ref sol, .int 0, .ref bal, .ref leg]))] sz) := by
  refine Met.ofW (cc := cX18_later) (maxL := 6) (ret := (some .int)) (by decide) rfl ?_
  intro p e s m args below meth c s₁ B hml hv
  obtain ⟨rfl, hsz, hb0, hE, hPP, hK, hDD, hF0⟩ := hv
  have hx := B.exec
  have hb := B.bytes
  have hr := B.returns
  have hts := atoms_spec (ws := wsX18_later) B.pre
  have hown : s.vm.findClass RX18 = some m.cls := findClass_of_methodNamed B.named
  have hlocks := B.notSynchronized
  subst hsz
  have hN0 := en_N hPP hDD rfl
  have hP : va_P (dC, dI) vwCl [(mm, .inr (24, [.int 0, .ref stu, .ref cla, .ref pic, .ref act, .int 5, .int 50, .ref nts, .ref isn, .int 1600, .ref boa, .ref mas, .ref pai, .ref sol, .int 0, .ref bal, .ref leg]))] s.heap := hPP.sub [0] rfl
  have hR0 : va_P (dC, dI) vwCl [(pic, .inr (20, [.ref ap, .ref scr, .int 1600, .int 0, .int 0, .ref mm])), (scr, .inr (5, [.int 0, .ref en.2.2.1, .int 0]))] s.heap := hPP.sub [1, 2] rfl
  have hD0 : va_D (fun q => b0 ≤ q) [(mm, .inr (24, [.int 0, .ref stu, .ref cla, .ref pic, .ref act, .int 5, .int 50, .ref nts, .ref isn, .int 1600, .ref boa, .ref mas, .ref pai, .ref sol, .int 0, .ref bal, .ref leg]))] := hDD.sub [0] (by decide) rfl
  have hDr : va_D (fun q => b0 ≤ q) [(pic, .inr (20, [.ref ap, .ref scr, .int 1600, .int 0, .int 0, .ref mm])), (scr, .inr (5, [.int 0, .ref en.2.2.1, .int 0]))] := hDD.sub [1, 2] (by decide) rfl
  have hAb := en_A (sz := s.heap.size) hD0 hb0
  have hD := hD0.self (sz := s.heap.size)
  generalize hAe : va_A [(mm, .inr (24, [.int 0, .ref stu, .ref cla, .ref pic, .ref act, .int 5, .int 50, .ref nts, .ref isn, .int 1600, .ref boa, .ref mas, .ref pai, .ref sol, .int 0, .ref bal, .ref leg]))] s.heap.size = A at hD hAb hN0 ⊢
  have hA : ∀ q : Nat, s.heap.size ≤ q → A q := fun q h => by rw [← hAe]; exact Or.inr h
  have hS : va_S A s.heap s.heap [] := va_S.rf
  have hR := hR0
  have hl := lv_entry [.ref mm, .int a, .int b] (n := 6) (Nat.le_of_ble_eq_true rfl)
  rw [lg_entry_eq]
  generalize (lg_sl [.ref mm, .int a, .int b] ++ List.replicate (6 - (lg_sl [.ref mm, .int a, .int b]).length) Slot.unset).toArray = ls at hl ⊢
  have hl : lv_has ls 6 [(0, .ref mm), (1, .int a), (2, .int b)] := hl
  refine lv_aload_n hx hb dX18_later_0 rfl (lv_at hl 0 rfl) ?_
  refine lv_iconst (v := 0) hx hb dX18_later_1 (by decide) ?_
  refine va_put (D := (dC, dI)) (ci := 24) (v := .int 0) (ty := .int) (C := RX18) (T := TX18) (N := 17) hx hb hts (by decide +kernel) tyX18 tyX18_ok nmX18 hown hK hP hD hS 0 rfl rfl 0 (by decide) (hts (.fieldLink RX18 67 "UnderpaintModel" "code" "I") (by decide +kernel)) (fun _ h9 => h9) rfl (by decide +kernel) rfl rfl (Nat.le_of_ble_eq_true rfl) dX18_later_2 (fun H locs hP hD hS => ?_)
  have hP : va_P (dC, dI) vwCl [(mm, .inr (24, [.int 0, .ref stu, .ref cla, .ref pic, .ref act, .int 5, .int 50, .ref nts, .ref isn, .int 1600, .ref boa, .ref mas, .ref pai, .ref sol, .int 0, .ref bal, .ref leg]))] H := hP
  have hD : va_D A [(mm, .inr (24, [.int 0, .ref stu, .ref cla, .ref pic, .ref act, .int 5, .int 50, .ref nts, .ref isn, .int 1600, .ref boa, .ref mas, .ref pai, .ref sol, .int 0, .ref bal, .ref leg]))] := hD
  have hR := en_R hR0 hN0 hS
  refine lv_aload_n hx hb dX18_later_5 rfl (lv_at hl 0 rfl) ?_
  refine lv_iload_n hx hb dX18_later_6 rfl (lv_at hl 1 rfl) ?_
  have hPc := (hP.app hR).sub (ws' := [] ++ [(mm, .inr (24, [.int 0, .ref stu, .ref cla, .ref pic, .ref act, .int 5, .int 50, .ref nts, .ref isn, .int 1600, .ref boa, .ref mas, .ref pai, .ref sol, .int 0, .ref bal, .ref leg])), (pic, .inr (20, [.ref ap, .ref scr, .int 1600, .int 0, .int 0, .ref mm])), (scr, .inr (5, [.int 0, .ref en.2.2.1, .int 0]))]) [0, 1, 2] rfl
  have hDc := (en_DD hD hDr hN0 hAb).sub (ws' := [] ++ [(mm, .inr (24, [.int 0, .ref stu, .ref cla, .ref pic, .ref act, .int 5, .int 50, .ref nts, .ref isn, .int 1600, .ref boa, .ref mas, .ref pai, .ref sol, .int 0, .ref bal, .ref leg])), (pic, .inr (20, [.ref ap, .ref scr, .int 1600, .int 0, .int 0, .ref mm])), (scr, .inr (5, [.int 0, .ref en.2.2.1, .int 0]))]) [0, 1, 2] (by decide) rfl
  have hKc := hK.sub (tys' := []) [] rfl
  have hFc := va_free (wc := []) hD hS hA [] rfl
  refine va_calli (va_runV (As := [.int a]) (rest := []) ⟨hx, hb, hml, hown, hts⟩ (c_X18_isScratch l dC dI b0 en H.size mm stu cla pic act nts isn boa mas pai sol bal leg ap scr a) (cwV 1 hts gX18_later_X18_isScratch rfl rfl rfl (by decide +kernel) ⟨Nat.le_of_ble_eq_true rfl, Nat.le_of_ble_eq_true rfl⟩) ⟨cP.blind, va_recv hK hP (ci := 24) (q0 := 0) rfl rfl, cP.use (en_z hb0 hS) (hE.on hAb hS) hPc hKc hDc trivial⟩ rfl rfl hl.1 rfl (lv_room (Nat.le_of_ble_eq_true rfl)) dX18_later_7 ⟨Nat.le_of_ble_eq_true rfl, Nat.le_of_ble_eq_true rfl⟩) hS (fun q _ h => hFc q h) hFc (fun r_1 u t H1 locs ht hvm hw hB hz1 hk1 hS => ?_)
  have hP1 : va_P (dC, dI) vwCl [] H1 := fun k q h => by simp at h
  have hD1 : va_D (va_A [] H.size) [] := ⟨fun i j p q h => by simp at h, fun k q h => by simp at h⟩
  try dsimp only at hw
  obtain ⟨hP, hD⟩ := va_join (wr := [(mm, .inr (24, [.int 0, .ref stu, .ref cla, .ref pic, .ref act, .int 5, .int 50, .ref nts, .ref isn, .int 1600, .ref boa, .ref mas, .ref pai, .ref sol, .int 0, .ref bal, .ref leg]))]) (w1 := []) hP hD [] [0] rfl rfl (by decide) (by decide) hk1 hFc hP1 hD1
  generalize H1 = H at hP hS ⊢
  have hP : va_P (dC, dI) vwCl [(mm, .inr (24, [.int 0, .ref stu, .ref cla, .ref pic, .ref act, .int 5, .int 50, .ref nts, .ref isn, .int 1600, .ref boa, .ref mas, .ref pai, .ref sol, .int 0, .ref bal, .ref leg]))] H := hP
  have hD : va_D A [(mm, .inr (24, [.int 0, .ref stu, .ref cla, .ref pic, .ref act, .int 5, .int 50, .ref nts, .ref isn, .int 1600, .ref boa, .ref mas, .ref pai, .ref sol, .int 0, .ref bal, .ref leg]))] := hD
  have hR := en_R hR0 hN0 hS
  refine W.widen (k := 0) (n := 0) (Nat.le_of_ble_eq_true rfl) (Nat.le_of_ble_eq_true rfl) ?_
  subst r_1
  refine lv_if_eq (tgt := 21) hx hb dX18_later_10 (by decide) (fun c_2 => ?_) (fun c_2 => absurd c_2 (by decide))
  refine lv_aload_n hx hb dX18_later_21 rfl (lv_at hl 0 rfl) ?_
  refine lv_iconst (v := 1) hx hb dX18_later_22 (by decide) ?_
  have hPc := (hP.app hR).sub (ws' := [(mm, .inr (24, .int 0 :: ([.ref stu, .ref cla, .ref pic, .ref act, .int 5, .int 50, .ref nts, .ref isn, .int 1600, .ref boa, .ref mas, .ref pai, .ref sol, .int 0, .ref bal, .ref leg])))] ++ []) [0] rfl
  have hDc := (en_DD hD hDr hN0 hAb).sub (ws' := [(mm, .inr (24, .int 0 :: ([.ref stu, .ref cla, .ref pic, .ref act, .int 5, .int 50, .ref nts, .ref isn, .int 1600, .ref boa, .ref mas, .ref pai, .ref sol, .int 0, .ref bal, .ref leg])))] ++ []) [0] (by decide) rfl
  have hKc := hK.sub (tys' := []) [] rfl
  have hFc := va_free (wc := [(mm, .inr (24, .int 0 :: ([.ref stu, .ref cla, .ref pic, .ref act, .int 5, .int 50, .ref nts, .ref isn, .int 1600, .ref boa, .ref mas, .ref pai, .ref sol, .int 0, .ref bal, .ref leg])))]) hD hS hA [0] rfl
  refine va_calli (va_runV (As := [.int 1]) (rest := []) ⟨hx, hb, hml, hown, hts⟩ (c_X18_fails l dC dI b0 en H.size mm 0 1 ([.ref stu, .ref cla, .ref pic, .ref act, .int 5, .int 50, .ref nts, .ref isn, .int 1600, .ref boa, .ref mas, .ref pai, .ref sol, .int 0, .ref bal, .ref leg])) (cwV 1 hts gX18_later_X18_fails rfl rfl rfl (by decide +kernel) ⟨Nat.le_of_ble_eq_true rfl, Nat.le_of_ble_eq_true rfl⟩) ⟨cP.blind, va_recv hK hP (ci := 24) (q0 := 0) rfl rfl, cP.use (en_z hb0 hS) (hE.on hAb hS) hPc hKc hDc trivial⟩ rfl rfl hl.1 rfl (lv_room (Nat.le_of_ble_eq_true rfl)) dX18_later_23 ⟨Nat.le_of_ble_eq_true rfl, Nat.le_of_ble_eq_true rfl⟩) hS (fun q _ h => hFc q h) hFc (fun r_3 u t H1 locs ht hvm hw hB hz1 hk1 hS => ?_)
  obtain ⟨hP1, hK1, hD1, hF1⟩ := hB
  rw [ht] at hP1
  try rw [ht] at hF1
  have hK1 := va_K.moved hvm.symm hK1
  try dsimp only at hw
  obtain ⟨hP, hD⟩ := va_join (wr := []) (w1 := [(mm, .inr (24, [.int 1, .ref stu, .ref cla, .ref pic, .ref act, .int 5, .int 50, .ref nts, .ref isn, .int 1600, .ref boa, .ref mas, .ref pai, .ref sol, .int 0, .ref bal, .ref leg]))]) hP hD [0] [] rfl rfl (by decide) (by decide) hk1 hFc hP1 hD1
  generalize H1 = H at hP hS ⊢
  have hP : va_P (dC, dI) vwCl [(mm, .inr (24, [.int 1, .ref stu, .ref cla, .ref pic, .ref act, .int 5, .int 50, .ref nts, .ref isn, .int 1600, .ref boa, .ref mas, .ref pai, .ref sol, .int 0, .ref bal, .ref leg]))] H := hP
  have hD : va_D A [(mm, .inr (24, [.int 1, .ref stu, .ref cla, .ref pic, .ref act, .int 5, .int 50, .ref nts, .ref isn, .int 1600, .ref boa, .ref mas, .ref pai, .ref sol, .int 0, .ref bal, .ref leg]))] := hD
  have hR := en_R hR0 hN0 hS
  refine W.widen (k := 0) (n := 0) (Nat.le_of_ble_eq_true rfl) (Nat.le_of_ble_eq_true rfl) ?_
  subst r_3
  refine W.widen (k := 0) (n := 0) (Nat.le_of_ble_eq_true rfl) (Nat.le_of_ble_eq_true rfl) ?_
  exact W.iret (v := 0) hx hb hr (fun t ht hW => ⟨⟨0, ⟨1, [.ref stu, .ref cla, .ref pic, .ref act, .int 5, .int 50, .ref nts, .ref isn, .int 1600, .ref boa, .ref mas, .ref pai, .ref sol, .int 0, .ref bal, .ref leg]⟩, rfl, (z_c_isEmpty0_22), cB.mk ht hW (hP.sub [0] rfl) (hK.sub [] rfl) (hD.sub [0] (by decide) rfl) (trivial)⟩, hS.F ht⟩) hS.2.2 dX18_later_26

set_option maxHeartbeats 4000000 in
set_option maxRecDepth 100000 in
theorem c_X18_takeBack (l : Launch) (dC : Nat → ClassId) (dI : Nat → Nat → Nat) (b0 : Nat) (en : EnT) (sz : Nat) (mm stu cla pic act nts isn boa mas pai sol bal leg : Nat) (a : Int32) : Met l yX18_takeBack wsX18_takeBack ({ frames := 1, cells := 0, slots := 0, locals := 22 } : Room) (cP b0 en (dC, dI) [] [(mm, .inr (24, [.int 0, .ref stu, .ref cla, .ref pic, .ref act, .int 5, .int 50, .ref nts, .ref isn, .int 1600, .ref boa, .ref mas, .ref pai, .ref sol, .int 0, .ref bal, .ref leg]))] [(act, .inr (5, [.int 0, .ref en.2.2.1, .int 0]))] sz (fun _ => True) [.ref mm, .int a]) (va_Qi (fun (r : Int32) (u : Int32 × List Value) => u.1 = 1) (fun u t => cB (dC, dI) [] [(mm, .inr (24, .int u.1 :: u.2))] (va_A [(mm, .inr (24, [.int 0, .ref stu, .ref cla, .ref pic, .ref act, .int 5, .int 50, .ref nts, .ref isn, .int 1600, .ref boa, .ref mas, .ref pai, .ref sol, .int 0, .ref bal, .ref leg]))] sz) (fun _ => True) t) (va_A [(mm, .inr (24, [.int 0, .ref stu, .ref cla, .ref pic, .ref act, .int 5, .int 50, .ref nts, .ref isn, .int 1600, .ref boa, .ref mas, .ref pai, .ref sol, .int 0, .ref bal, .ref leg]))] sz)) 0 0 (va_A [(mm, .inr (24, [.int 0, .ref stu, .ref cla, .ref pic, .ref act, .int 5, .int 50, .ref nts, .ref isn, .int 1600, .ref boa, .ref mas, .ref pai, .ref sol, .int 0, .ref bal, .ref leg]))] sz) := by
  refine Met.ofW (cc := cX18_takeBack) (maxL := 5) (ret := (some .int)) (by decide) rfl ?_
  intro p e s m args below meth c s₁ B hml hv
  obtain ⟨rfl, hsz, hb0, hE, hPP, hK, hDD, hF0⟩ := hv
  have hx := B.exec
  have hb := B.bytes
  have hr := B.returns
  have hts := atoms_spec (ws := wsX18_takeBack) B.pre
  have hown : s.vm.findClass RX18 = some m.cls := findClass_of_methodNamed B.named
  have hlocks := B.notSynchronized
  subst hsz
  have hN0 := en_N hPP hDD rfl
  have hP : va_P (dC, dI) vwCl [(mm, .inr (24, [.int 0, .ref stu, .ref cla, .ref pic, .ref act, .int 5, .int 50, .ref nts, .ref isn, .int 1600, .ref boa, .ref mas, .ref pai, .ref sol, .int 0, .ref bal, .ref leg]))] s.heap := hPP.sub [0] rfl
  have hR0 : va_P (dC, dI) vwCl [(act, .inr (5, [.int 0, .ref en.2.2.1, .int 0]))] s.heap := hPP.sub [1] rfl
  have hD0 : va_D (fun q => b0 ≤ q) [(mm, .inr (24, [.int 0, .ref stu, .ref cla, .ref pic, .ref act, .int 5, .int 50, .ref nts, .ref isn, .int 1600, .ref boa, .ref mas, .ref pai, .ref sol, .int 0, .ref bal, .ref leg]))] := hDD.sub [0] (by decide) rfl
  have hDr : va_D (fun q => b0 ≤ q) [(act, .inr (5, [.int 0, .ref en.2.2.1, .int 0]))] := hDD.sub [1] (by decide) rfl
  have hAb := en_A (sz := s.heap.size) hD0 hb0
  have hD := hD0.self (sz := s.heap.size)
  generalize hAe : va_A [(mm, .inr (24, [.int 0, .ref stu, .ref cla, .ref pic, .ref act, .int 5, .int 50, .ref nts, .ref isn, .int 1600, .ref boa, .ref mas, .ref pai, .ref sol, .int 0, .ref bal, .ref leg]))] s.heap.size = A at hD hAb hN0 ⊢
  have hA : ∀ q : Nat, s.heap.size ≤ q → A q := fun q h => by rw [← hAe]; exact Or.inr h
  have hS : va_S A s.heap s.heap [] := va_S.rf
  have hR := hR0
  have hl := lv_entry [.ref mm, .int a] (n := 5) (Nat.le_of_ble_eq_true rfl)
  rw [lg_entry_eq]
  generalize (lg_sl [.ref mm, .int a] ++ List.replicate (5 - (lg_sl [.ref mm, .int a]).length) Slot.unset).toArray = ls at hl ⊢
  have hl : lv_has ls 5 [(0, .ref mm), (1, .int a)] := hl
  refine lv_aload_n hx hb dX18_takeBack_0 rfl (lv_at hl 0 rfl) ?_
  refine lv_iconst (v := 0) hx hb dX18_takeBack_1 (by decide) ?_
  refine va_put (D := (dC, dI)) (ci := 24) (v := .int 0) (ty := .int) (C := RX18) (T := TX18) (N := 17) hx hb hts (by decide +kernel) tyX18 tyX18_ok nmX18 hown hK hP hD hS 0 rfl rfl 0 (by decide) (hts (.fieldLink RX18 67 "UnderpaintModel" "code" "I") (by decide +kernel)) (fun _ h9 => h9) rfl (by decide +kernel) rfl rfl (Nat.le_of_ble_eq_true rfl) dX18_takeBack_2 (fun H locs hP hD hS => ?_)
  have hP : va_P (dC, dI) vwCl [(mm, .inr (24, [.int 0, .ref stu, .ref cla, .ref pic, .ref act, .int 5, .int 50, .ref nts, .ref isn, .int 1600, .ref boa, .ref mas, .ref pai, .ref sol, .int 0, .ref bal, .ref leg]))] H := hP
  have hD : va_D A [(mm, .inr (24, [.int 0, .ref stu, .ref cla, .ref pic, .ref act, .int 5, .int 50, .ref nts, .ref isn, .int 1600, .ref boa, .ref mas, .ref pai, .ref sol, .int 0, .ref bal, .ref leg]))] := hD
  have hR := en_R hR0 hN0 hS
  refine lv_iload_n hx hb dX18_takeBack_5 rfl (lv_at hl 1 rfl) ?_
  refine lv_iconst (v := 0) hx hb dX18_takeBack_6 (by decide) ?_
  refine lv_aload_n hx hb dX18_takeBack_7 rfl (lv_at hl 0 rfl) ?_
  refine va_get (D := (dC, dI)) (ci := 24) (v := .ref act) (C := RX18) (T := TX18) (N := 17) hx hb hts (by decide +kernel) hown hK hP 0 rfl rfl 4 (by decide) (hts (.fieldLink RX18 29 "UnderpaintModel" "acts" "Ljava/util/List;") (by decide +kernel)) (fun _ h9 => h9) rfl dX18_takeBack_8 ?_
  have hPc := (hP.app hR).sub (ws' := [] ++ [(act, .inr (5, [.int 0, .ref en.2.2.1, .int 0]))]) [1] rfl
  have hDc := (en_DD hD hDr hN0 hAb).sub (ws' := [] ++ [(act, .inr (5, [.int 0, .ref en.2.2.1, .int 0]))]) [1] (by decide) rfl
  have hKc := hK.sub (tys' := []) [] rfl
  have hFc := va_free (wc := []) hD hS hA [] rfl
  refine va_callFi (va_runF (As := []) (rest := [.int 0, .int a]) (hK.1 5 _ rfl).2 ⟨hx, hb, hml, hown, hts⟩ (c_Jx4a65c_size l dC dI b0 en H.size act en.2.2.1 0 0) (va_cwF 0 hts gX18_takeBack_Jx4a65c_size_8abf5_f74Jx4a65c rfl rfl rfl (hE.face ("java/util/ArrayList", ⟨"java/util/List", "size", "()I"⟩, ⟨"java/util/ArrayList", "size", "()I"⟩) (by decide +kernel)) (by decide +kernel) ⟨Nat.le_of_ble_eq_true rfl, Nat.le_of_ble_eq_true rfl⟩) ⟨cP.blind, va_recv hK hR (ci := 5) (q0 := 0) rfl rfl, cP.use (en_z hb0 hS) (hE.on hAb hS) hPc hKc hDc trivial⟩ rfl rfl hl.1 rfl (lv_room (Nat.le_of_ble_eq_true rfl)) dX18_takeBack_11 ⟨Nat.le_of_ble_eq_true rfl, Nat.le_of_ble_eq_true rfl⟩) hS (fun q _ h => hFc q h) hFc (fun r_1 u t H1 locs ht hvm hw hB hz1 hk1 hS => ?_)
  have hP1 : va_P (dC, dI) vwCl [] H1 := fun k q h => by simp at h
  have hD1 : va_D (va_A [] H.size) [] := ⟨fun i j p q h => by simp at h, fun k q h => by simp at h⟩
  try dsimp only at hw
  obtain ⟨hP, hD⟩ := va_join (wr := [(mm, .inr (24, [.int 0, .ref stu, .ref cla, .ref pic, .ref act, .int 5, .int 50, .ref nts, .ref isn, .int 1600, .ref boa, .ref mas, .ref pai, .ref sol, .int 0, .ref bal, .ref leg]))]) (w1 := []) hP hD [] [0] rfl rfl (by decide) (by decide) hk1 hFc hP1 hD1
  generalize H1 = H at hP hS ⊢
  have hP : va_P (dC, dI) vwCl [(mm, .inr (24, [.int 0, .ref stu, .ref cla, .ref pic, .ref act, .int 5, .int 50, .ref nts, .ref isn, .int 1600, .ref boa, .ref mas, .ref pai, .ref sol, .int 0, .ref bal, .ref leg]))] H := hP
  have hD : va_D A [(mm, .inr (24, [.int 0, .ref stu, .ref cla, .ref pic, .ref act, .int 5, .int 50, .ref nts, .ref isn, .int 1600, .ref boa, .ref mas, .ref pai, .ref sol, .int 0, .ref bal, .ref leg]))] := hD
  have hR := en_R hR0 hN0 hS
  refine W.widen (k := 0) (n := 0) (Nat.le_of_ble_eq_true rfl) (Nat.le_of_ble_eq_true rfl) ?_
  subst r_1
  refine lv_iconst (v := 1) hx hb dX18_takeBack_16 (by decide) ?_
  refine lv_isub hx hb dX18_takeBack_17 ?_
  refine lv_topi (fun x_2 ex_2 => ?_)
  obtain rfl : x_2 = (-1) := ex_2.trans (by decide)
  have hPc := (hP.app hR).sub (ws' := [] ++ []) [] rfl
  have hDc := (en_DD hD hDr hN0 hAb).sub (ws' := [] ++ []) [] (by decide) rfl
  have hKc := hK.sub (tys' := []) [] rfl
  have hFc := va_free (wc := []) hD hS hA [] rfl
  refine va_calli (va_runS (As := [.int a, .int 0, .int (-1)]) (rest := []) ⟨hx, hb, hml, hown, hts⟩ (c_X18_in0 l dC dI b0 en H.size a) (va_cwS 3 hts gX18_takeBack_X18_in rfl rfl rfl (by decide +kernel) ⟨Nat.le_of_ble_eq_true rfl, Nat.le_of_ble_eq_true rfl⟩) ⟨cP.blind, cP.use (en_z hb0 hS) (hE.on hAb hS) hPc hKc hDc trivial⟩ rfl rfl hl.1 rfl (lv_room (Nat.le_of_ble_eq_true rfl)) dX18_takeBack_18 ⟨Nat.le_of_ble_eq_true rfl, Nat.le_of_ble_eq_true rfl⟩) hS (fun q _ h => hFc q h) hFc (fun r_3 u t H1 locs ht hvm hw hB hz1 hk1 hS => ?_)
  have hP1 : va_P (dC, dI) vwCl [] H1 := fun k q h => by simp at h
  have hD1 : va_D (va_A [] H.size) [] := ⟨fun i j p q h => by simp at h, fun k q h => by simp at h⟩
  try dsimp only at hw
  obtain ⟨hP, hD⟩ := va_join (wr := [(mm, .inr (24, [.int 0, .ref stu, .ref cla, .ref pic, .ref act, .int 5, .int 50, .ref nts, .ref isn, .int 1600, .ref boa, .ref mas, .ref pai, .ref sol, .int 0, .ref bal, .ref leg]))]) (w1 := []) hP hD [] [0] rfl rfl (by decide) (by decide) hk1 hFc hP1 hD1
  generalize H1 = H at hP hS ⊢
  have hP : va_P (dC, dI) vwCl [(mm, .inr (24, [.int 0, .ref stu, .ref cla, .ref pic, .ref act, .int 5, .int 50, .ref nts, .ref isn, .int 1600, .ref boa, .ref mas, .ref pai, .ref sol, .int 0, .ref bal, .ref leg]))] H := hP
  have hD : va_D A [(mm, .inr (24, [.int 0, .ref stu, .ref cla, .ref pic, .ref act, .int 5, .int 50, .ref nts, .ref isn, .int 1600, .ref boa, .ref mas, .ref pai, .ref sol, .int 0, .ref bal, .ref leg]))] := hD
  have hR := en_R hR0 hN0 hS
  refine W.widen (k := 0) (n := 0) (Nat.le_of_ble_eq_true rfl) (Nat.le_of_ble_eq_true rfl) ?_
  subst r_3
  refine lv_if_ne (tgt := 30) hx hb dX18_takeBack_21 (by decide) (fun c_4 => absurd c_4 (by decide)) (fun c_4 => ?_)
  refine lv_aload_n hx hb dX18_takeBack_24 rfl (lv_at hl 0 rfl) ?_
  refine lv_iconst (v := 1) hx hb dX18_takeBack_25 (by decide) ?_
  have hPc := (hP.app hR).sub (ws' := [(mm, .inr (24, .int 0 :: ([.ref stu, .ref cla, .ref pic, .ref act, .int 5, .int 50, .ref nts, .ref isn, .int 1600, .ref boa, .ref mas, .ref pai, .ref sol, .int 0, .ref bal, .ref leg])))] ++ []) [0] rfl
  have hDc := (en_DD hD hDr hN0 hAb).sub (ws' := [(mm, .inr (24, .int 0 :: ([.ref stu, .ref cla, .ref pic, .ref act, .int 5, .int 50, .ref nts, .ref isn, .int 1600, .ref boa, .ref mas, .ref pai, .ref sol, .int 0, .ref bal, .ref leg])))] ++ []) [0] (by decide) rfl
  have hKc := hK.sub (tys' := []) [] rfl
  have hFc := va_free (wc := [(mm, .inr (24, .int 0 :: ([.ref stu, .ref cla, .ref pic, .ref act, .int 5, .int 50, .ref nts, .ref isn, .int 1600, .ref boa, .ref mas, .ref pai, .ref sol, .int 0, .ref bal, .ref leg])))]) hD hS hA [0] rfl
  refine va_calli (va_runV (As := [.int 1]) (rest := []) ⟨hx, hb, hml, hown, hts⟩ (c_X18_fails l dC dI b0 en H.size mm 0 1 ([.ref stu, .ref cla, .ref pic, .ref act, .int 5, .int 50, .ref nts, .ref isn, .int 1600, .ref boa, .ref mas, .ref pai, .ref sol, .int 0, .ref bal, .ref leg])) (cwV 1 hts gX18_takeBack_X18_fails rfl rfl rfl (by decide +kernel) ⟨Nat.le_of_ble_eq_true rfl, Nat.le_of_ble_eq_true rfl⟩) ⟨cP.blind, va_recv hK hP (ci := 24) (q0 := 0) rfl rfl, cP.use (en_z hb0 hS) (hE.on hAb hS) hPc hKc hDc trivial⟩ rfl rfl hl.1 rfl (lv_room (Nat.le_of_ble_eq_true rfl)) dX18_takeBack_26 ⟨Nat.le_of_ble_eq_true rfl, Nat.le_of_ble_eq_true rfl⟩) hS (fun q _ h => hFc q h) hFc (fun r_5 u t H1 locs ht hvm hw hB hz1 hk1 hS => ?_)
  obtain ⟨hP1, hK1, hD1, hF1⟩ := hB
  rw [ht] at hP1
  try rw [ht] at hF1
  have hK1 := va_K.moved hvm.symm hK1
  try dsimp only at hw
  obtain ⟨hP, hD⟩ := va_join (wr := []) (w1 := [(mm, .inr (24, [.int 1, .ref stu, .ref cla, .ref pic, .ref act, .int 5, .int 50, .ref nts, .ref isn, .int 1600, .ref boa, .ref mas, .ref pai, .ref sol, .int 0, .ref bal, .ref leg]))]) hP hD [0] [] rfl rfl (by decide) (by decide) hk1 hFc hP1 hD1
  generalize H1 = H at hP hS ⊢
  have hP : va_P (dC, dI) vwCl [(mm, .inr (24, [.int 1, .ref stu, .ref cla, .ref pic, .ref act, .int 5, .int 50, .ref nts, .ref isn, .int 1600, .ref boa, .ref mas, .ref pai, .ref sol, .int 0, .ref bal, .ref leg]))] H := hP
  have hD : va_D A [(mm, .inr (24, [.int 1, .ref stu, .ref cla, .ref pic, .ref act, .int 5, .int 50, .ref nts, .ref isn, .int 1600, .ref boa, .ref mas, .ref pai, .ref sol, .int 0, .ref bal, .ref leg]))] := hD
  have hR := en_R hR0 hN0 hS
  refine W.widen (k := 0) (n := 0) (Nat.le_of_ble_eq_true rfl) (Nat.le_of_ble_eq_true rfl) ?_
  subst r_5
  refine W.widen (k := 0) (n := 0) (Nat.le_of_ble_eq_true rfl) (Nat.le_of_ble_eq_true rfl) ?_
  exact W.iret (v := 0) hx hb hr (fun t ht hW => ⟨⟨0, ⟨1, [.ref stu, .ref cla, .ref pic, .ref act, .int 5, .int 50, .ref nts, .ref isn, .int 1600, .ref boa, .ref mas, .ref pai, .ref sol, .int 0, .ref bal, .ref leg]⟩, rfl, (z_c_isEmpty0_22), cB.mk ht hW (hP.sub [0] rfl) (hK.sub [] rfl) (hD.sub [0] (by decide) rfl) (trivial)⟩, hS.F ht⟩) hS.2.2 dX18_takeBack_29

set_option maxHeartbeats 4000000 in
set_option maxRecDepth 100000 in
theorem c_X18_actAt (l : Launch) (dC : Nat → ClassId) (dI : Nat → Nat → Nat) (b0 : Nat) (en : EnT) (sz : Nat) (mm stu cla pic act nts isn boa mas pai sol bal leg : Nat) (a : Int32) : Met l yX18_actAt wsX18_actAt ({ frames := 1, cells := 0, slots := 0, locals := 22 } : Room) (cP b0 en (dC, dI) [] [(mm, .inr (24, [.int 0, .ref stu, .ref cla, .ref pic, .ref act, .int 5, .int 50, .ref nts, .ref isn, .int 1600, .ref boa, .ref mas, .ref pai, .ref sol, .int 0, .ref bal, .ref leg]))] [(act, .inr (5, [.int 0, .ref en.2.2.1, .int 0]))] sz (fun _ => True) [.ref mm, .int a]) (va_Qi (fun (r : Int32) (u : Int32 × List Value) => u.1 = 1) (fun u t => cB (dC, dI) [] [(mm, .inr (24, .int u.1 :: u.2))] (va_A [(mm, .inr (24, [.int 0, .ref stu, .ref cla, .ref pic, .ref act, .int 5, .int 50, .ref nts, .ref isn, .int 1600, .ref boa, .ref mas, .ref pai, .ref sol, .int 0, .ref bal, .ref leg]))] sz) (fun _ => True) t) (va_A [(mm, .inr (24, [.int 0, .ref stu, .ref cla, .ref pic, .ref act, .int 5, .int 50, .ref nts, .ref isn, .int 1600, .ref boa, .ref mas, .ref pai, .ref sol, .int 0, .ref bal, .ref leg]))] sz)) 0 0 (va_A [(mm, .inr (24, [.int 0, .ref stu, .ref cla, .ref pic, .ref act, .int 5, .int 50, .ref nts, .ref isn, .int 1600, .ref boa, .ref mas, .ref pai, .ref sol, .int 0, .ref bal, .ref leg]))] sz) := by
  refine Met.ofW (cc := cX18_actAt) (maxL := 2) (ret := (some .char)) (by decide) rfl ?_
  intro p e s m args below meth c s₁ B hml hv
  obtain ⟨rfl, hsz, hb0, hE, hPP, hK, hDD, hF0⟩ := hv
  have hx := B.exec
  have hb := B.bytes
  have hr := B.returns
  have hts := atoms_spec (ws := wsX18_actAt) B.pre
  have hown : s.vm.findClass RX18 = some m.cls := findClass_of_methodNamed B.named
  have hlocks := B.notSynchronized
  subst hsz
  have hN0 := en_N hPP hDD rfl
  have hP : va_P (dC, dI) vwCl [(mm, .inr (24, [.int 0, .ref stu, .ref cla, .ref pic, .ref act, .int 5, .int 50, .ref nts, .ref isn, .int 1600, .ref boa, .ref mas, .ref pai, .ref sol, .int 0, .ref bal, .ref leg]))] s.heap := hPP.sub [0] rfl
  have hR0 : va_P (dC, dI) vwCl [(act, .inr (5, [.int 0, .ref en.2.2.1, .int 0]))] s.heap := hPP.sub [1] rfl
  have hD0 : va_D (fun q => b0 ≤ q) [(mm, .inr (24, [.int 0, .ref stu, .ref cla, .ref pic, .ref act, .int 5, .int 50, .ref nts, .ref isn, .int 1600, .ref boa, .ref mas, .ref pai, .ref sol, .int 0, .ref bal, .ref leg]))] := hDD.sub [0] (by decide) rfl
  have hDr : va_D (fun q => b0 ≤ q) [(act, .inr (5, [.int 0, .ref en.2.2.1, .int 0]))] := hDD.sub [1] (by decide) rfl
  have hAb := en_A (sz := s.heap.size) hD0 hb0
  have hD := hD0.self (sz := s.heap.size)
  generalize hAe : va_A [(mm, .inr (24, [.int 0, .ref stu, .ref cla, .ref pic, .ref act, .int 5, .int 50, .ref nts, .ref isn, .int 1600, .ref boa, .ref mas, .ref pai, .ref sol, .int 0, .ref bal, .ref leg]))] s.heap.size = A at hD hAb hN0 ⊢
  have hA : ∀ q : Nat, s.heap.size ≤ q → A q := fun q h => by rw [← hAe]; exact Or.inr h
  have hS : va_S A s.heap s.heap [] := va_S.rf
  have hR := hR0
  have hl := lv_entry [.ref mm, .int a] (n := 2) (Nat.le_of_ble_eq_true rfl)
  rw [lg_entry_eq]
  generalize (lg_sl [.ref mm, .int a] ++ List.replicate (2 - (lg_sl [.ref mm, .int a]).length) Slot.unset).toArray = ls at hl ⊢
  have hl : lv_has ls 2 [(0, .ref mm), (1, .int a)] := hl
  refine lv_aload_n hx hb dX18_actAt_0 rfl (lv_at hl 0 rfl) ?_
  refine lv_iload_n hx hb dX18_actAt_1 rfl (lv_at hl 1 rfl) ?_
  refine lv_iconst (v := 0) hx hb dX18_actAt_2 (by decide) ?_
  refine lv_aload_n hx hb dX18_actAt_3 rfl (lv_at hl 0 rfl) ?_
  refine va_get (D := (dC, dI)) (ci := 24) (v := .ref act) (C := RX18) (T := TX18) (N := 17) hx hb hts (by decide +kernel) hown hK hP 0 rfl rfl 4 (by decide) (hts (.fieldLink RX18 29 "UnderpaintModel" "acts" "Ljava/util/List;") (by decide +kernel)) (fun _ h9 => h9) rfl dX18_actAt_4 ?_
  have hPc := (hP.app hR).sub (ws' := [] ++ [(act, .inr (5, [.int 0, .ref en.2.2.1, .int 0]))]) [1] rfl
  have hDc := (en_DD hD hDr hN0 hAb).sub (ws' := [] ++ [(act, .inr (5, [.int 0, .ref en.2.2.1, .int 0]))]) [1] (by decide) rfl
  have hKc := hK.sub (tys' := []) [] rfl
  have hFc := va_free (wc := []) hD hS hA [] rfl
  refine va_callFi (va_runF (As := []) (rest := [.int 0, .int a, .ref mm]) (hK.1 5 _ rfl).2 ⟨hx, hb, hml, hown, hts⟩ (c_Jx4a65c_size l dC dI b0 en s.heap.size act en.2.2.1 0 0) (va_cwF 0 hts gX18_actAt_Jx4a65c_size_8abf5_f74Jx4a65c rfl rfl rfl (hE.face ("java/util/ArrayList", ⟨"java/util/List", "size", "()I"⟩, ⟨"java/util/ArrayList", "size", "()I"⟩) (by decide +kernel)) (by decide +kernel) ⟨Nat.le_of_ble_eq_true rfl, Nat.le_of_ble_eq_true rfl⟩) ⟨cP.blind, va_recv hK hR (ci := 5) (q0 := 0) rfl rfl, cP.use (en_z hb0 hS) (hE.on hAb hS) hPc hKc hDc trivial⟩ rfl rfl hl.1 rfl (lv_room (Nat.le_of_ble_eq_true rfl)) dX18_actAt_7 ⟨Nat.le_of_ble_eq_true rfl, Nat.le_of_ble_eq_true rfl⟩) hS (fun q _ h => hFc q h) hFc (fun r_1 u t H1 locs ht hvm hw hB hz1 hk1 hS => ?_)
  have hP1 : va_P (dC, dI) vwCl [] H1 := fun k q h => by simp at h
  have hD1 : va_D (va_A [] s.heap.size) [] := ⟨fun i j p q h => by simp at h, fun k q h => by simp at h⟩
  try dsimp only at hw
  obtain ⟨hP, hD⟩ := va_join (wr := [(mm, .inr (24, [.int 0, .ref stu, .ref cla, .ref pic, .ref act, .int 5, .int 50, .ref nts, .ref isn, .int 1600, .ref boa, .ref mas, .ref pai, .ref sol, .int 0, .ref bal, .ref leg]))]) (w1 := []) hP hD [] [0] rfl rfl (by decide) (by decide) hk1 hFc hP1 hD1
  generalize H1 = H at hP hS ⊢
  have hP : va_P (dC, dI) vwCl [(mm, .inr (24, [.int 0, .ref stu, .ref cla, .ref pic, .ref act, .int 5, .int 50, .ref nts, .ref isn, .int 1600, .ref boa, .ref mas, .ref pai, .ref sol, .int 0, .ref bal, .ref leg]))] H := hP
  have hD : va_D A [(mm, .inr (24, [.int 0, .ref stu, .ref cla, .ref pic, .ref act, .int 5, .int 50, .ref nts, .ref isn, .int 1600, .ref boa, .ref mas, .ref pai, .ref sol, .int 0, .ref bal, .ref leg]))] := hD
  have hR := en_R hR0 hN0 hS
  refine W.widen (k := 0) (n := 0) (Nat.le_of_ble_eq_true rfl) (Nat.le_of_ble_eq_true rfl) ?_
  subst r_1
  refine lv_iconst (v := 1) hx hb dX18_actAt_12 (by decide) ?_
  refine lv_isub hx hb dX18_actAt_13 ?_
  refine lv_topi (fun x_2 ex_2 => ?_)
  obtain rfl : x_2 = (-1) := ex_2.trans (by decide)
  have hPc := (hP.app hR).sub (ws' := [] ++ []) [] rfl
  have hDc := (en_DD hD hDr hN0 hAb).sub (ws' := [] ++ []) [] (by decide) rfl
  have hKc := hK.sub (tys' := []) [] rfl
  have hFc := va_free (wc := []) hD hS hA [] rfl
  refine va_calli (va_runS (As := [.int a, .int 0, .int (-1)]) (rest := [.ref mm]) ⟨hx, hb, hml, hown, hts⟩ (c_X18_in0 l dC dI b0 en H.size a) (va_cwS 3 hts gX18_actAt_X18_in rfl rfl rfl (by decide +kernel) ⟨Nat.le_of_ble_eq_true rfl, Nat.le_of_ble_eq_true rfl⟩) ⟨cP.blind, cP.use (en_z hb0 hS) (hE.on hAb hS) hPc hKc hDc trivial⟩ rfl rfl hl.1 rfl (lv_room (Nat.le_of_ble_eq_true rfl)) dX18_actAt_14 ⟨Nat.le_of_ble_eq_true rfl, Nat.le_of_ble_eq_true rfl⟩) hS (fun q _ h => hFc q h) hFc (fun r_3 u t H1 locs ht hvm hw hB hz1 hk1 hS => ?_)
  have hP1 : va_P (dC, dI) vwCl [] H1 := fun k q h => by simp at h
  have hD1 : va_D (va_A [] H.size) [] := ⟨fun i j p q h => by simp at h, fun k q h => by simp at h⟩
  try dsimp only at hw
  obtain ⟨hP, hD⟩ := va_join (wr := [(mm, .inr (24, [.int 0, .ref stu, .ref cla, .ref pic, .ref act, .int 5, .int 50, .ref nts, .ref isn, .int 1600, .ref boa, .ref mas, .ref pai, .ref sol, .int 0, .ref bal, .ref leg]))]) (w1 := []) hP hD [] [0] rfl rfl (by decide) (by decide) hk1 hFc hP1 hD1
  generalize H1 = H at hP hS ⊢
  have hP : va_P (dC, dI) vwCl [(mm, .inr (24, [.int 0, .ref stu, .ref cla, .ref pic, .ref act, .int 5, .int 50, .ref nts, .ref isn, .int 1600, .ref boa, .ref mas, .ref pai, .ref sol, .int 0, .ref bal, .ref leg]))] H := hP
  have hD : va_D A [(mm, .inr (24, [.int 0, .ref stu, .ref cla, .ref pic, .ref act, .int 5, .int 50, .ref nts, .ref isn, .int 1600, .ref boa, .ref mas, .ref pai, .ref sol, .int 0, .ref bal, .ref leg]))] := hD
  have hR := en_R hR0 hN0 hS
  refine W.widen (k := 0) (n := 0) (Nat.le_of_ble_eq_true rfl) (Nat.le_of_ble_eq_true rfl) ?_
  subst r_3
  refine lv_if_eq (tgt := 24) hx hb dX18_actAt_17 (by decide) (fun c_4 => ?_) (fun c_4 => absurd c_4 (by decide))
  refine lv_iconst (v := 1) hx hb dX18_actAt_24 (by decide) ?_
  refine va_put (D := (dC, dI)) (ci := 24) (v := .int 1) (ty := .int) (C := RX18) (T := TX18) (N := 17) hx hb hts (by decide +kernel) tyX18 tyX18_ok nmX18 hown hK hP hD hS 0 rfl rfl 0 (by decide) (hts (.fieldLink RX18 67 "UnderpaintModel" "code" "I") (by decide +kernel)) (fun _ h9 => h9) rfl (by decide +kernel) rfl rfl (Nat.le_of_ble_eq_true rfl) dX18_actAt_25 (fun H locs hP hD hS => ?_)
  have hP : va_P (dC, dI) vwCl [(mm, .inr (24, [.int 1, .ref stu, .ref cla, .ref pic, .ref act, .int 5, .int 50, .ref nts, .ref isn, .int 1600, .ref boa, .ref mas, .ref pai, .ref sol, .int 0, .ref bal, .ref leg]))] H := hP
  have hD : va_D A [(mm, .inr (24, [.int 1, .ref stu, .ref cla, .ref pic, .ref act, .int 5, .int 50, .ref nts, .ref isn, .int 1600, .ref boa, .ref mas, .ref pai, .ref sol, .int 0, .ref bal, .ref leg]))] := hD
  have hR := en_R hR0 hN0 hS
  refine lv_aload_n hx hb dX18_actAt_28 rfl (lv_at hl 0 rfl) ?_
  refine va_get (D := (dC, dI)) (ci := 24) (v := .int 1) (C := RX18) (T := TX18) (N := 17) hx hb hts (by decide +kernel) hown hK hP 0 rfl rfl 0 (by decide) (hts (.fieldLink RX18 67 "UnderpaintModel" "code" "I") (by decide +kernel)) (fun _ h9 => h9) rfl dX18_actAt_29 ?_
  refine lv_if_le (tgt := 39) hx hb dX18_actAt_32 (by decide) (fun c_5 => absurd c_5 (by decide)) (fun c_5 => ?_)
  refine lv_iconst (v := 0) hx hb dX18_actAt_35 (by decide) ?_
  refine lv_goto (tgt := 55) hx hb dX18_actAt_36 (by decide) ?_
  refine W.widen (k := 0) (n := 0) (Nat.le_of_ble_eq_true rfl) (Nat.le_of_ble_eq_true rfl) ?_
  exact W.zret (v := 0) hx hb hr (by first | rfl | decide +kernel) (fun t ht hW => ⟨⟨0, ⟨1, [.ref stu, .ref cla, .ref pic, .ref act, .int 5, .int 50, .ref nts, .ref isn, .int 1600, .ref boa, .ref mas, .ref pai, .ref sol, .int 0, .ref bal, .ref leg]⟩, rfl, (z_c_isEmpty0_22), cB.mk ht hW (hP.sub [0] rfl) (hK.sub [] rfl) (hD.sub [0] (by decide) rfl) (trivial)⟩, hS.F ht⟩) hS.2.2 dX18_actAt_55
theorem z_c_X18_acts_28   : (0 : Int32) = 0 ∧ (0 : Int32) = 0 := by grind
set_option maxHeartbeats 4000000 in
set_option maxRecDepth 100000 in
theorem c_X18_acts (l : Launch) (dC : Nat → ClassId) (dI : Nat → Nat → Nat) (b0 : Nat) (en : EnT) (sz : Nat) (mm stu cla pic act nts isn boa mas pai sol bal leg : Nat) : Met l yX18_acts wsX18_acts ({ frames := 1, cells := 0, slots := 0, locals := 20 } : Room) (cP b0 en (dC, dI) [] [(mm, .inr (24, [.int 0, .ref stu, .ref cla, .ref pic, .ref act, .int 5, .int 50, .ref nts, .ref isn, .int 1600, .ref boa, .ref mas, .ref pai, .ref sol, .int 0, .ref bal, .ref leg]))] [(act, .inr (5, [.int 0, .ref en.2.2.1, .int 0]))] sz (fun _ => True) [.ref mm]) (va_Qi (fun (r : Int32) (u : Int32 × List Value) => u.1 = 0 ∧ r = 0) (fun u t => cB (dC, dI) [] [(mm, .inr (24, .int u.1 :: u.2))] (va_A [(mm, .inr (24, [.int 0, .ref stu, .ref cla, .ref pic, .ref act, .int 5, .int 50, .ref nts, .ref isn, .int 1600, .ref boa, .ref mas, .ref pai, .ref sol, .int 0, .ref bal, .ref leg]))] sz) (fun _ => True) t) (va_A [(mm, .inr (24, [.int 0, .ref stu, .ref cla, .ref pic, .ref act, .int 5, .int 50, .ref nts, .ref isn, .int 1600, .ref boa, .ref mas, .ref pai, .ref sol, .int 0, .ref bal, .ref leg]))] sz)) 0 0 (va_A [(mm, .inr (24, [.int 0, .ref stu, .ref cla, .ref pic, .ref act, .int 5, .int 50, .ref nts, .ref isn, .int 1600, .ref boa, .ref mas, .ref pai, .ref sol, .int 0, .ref bal, .ref leg]))] sz) := by
  refine Met.ofW (cc := cX18_acts) (maxL := 1) (ret := (some .int)) (by decide) rfl ?_
  intro p e s m args below meth c s₁ B hml hv
  obtain ⟨rfl, hsz, hb0, hE, hPP, hK, hDD, hF0⟩ := hv
  have hx := B.exec
  have hb := B.bytes
  have hr := B.returns
  have hts := atoms_spec (ws := wsX18_acts) B.pre
  have hown : s.vm.findClass RX18 = some m.cls := findClass_of_methodNamed B.named
  have hlocks := B.notSynchronized
  subst hsz
  have hN0 := en_N hPP hDD rfl
  have hP : va_P (dC, dI) vwCl [(mm, .inr (24, [.int 0, .ref stu, .ref cla, .ref pic, .ref act, .int 5, .int 50, .ref nts, .ref isn, .int 1600, .ref boa, .ref mas, .ref pai, .ref sol, .int 0, .ref bal, .ref leg]))] s.heap := hPP.sub [0] rfl
  have hR0 : va_P (dC, dI) vwCl [(act, .inr (5, [.int 0, .ref en.2.2.1, .int 0]))] s.heap := hPP.sub [1] rfl
  have hD0 : va_D (fun q => b0 ≤ q) [(mm, .inr (24, [.int 0, .ref stu, .ref cla, .ref pic, .ref act, .int 5, .int 50, .ref nts, .ref isn, .int 1600, .ref boa, .ref mas, .ref pai, .ref sol, .int 0, .ref bal, .ref leg]))] := hDD.sub [0] (by decide) rfl
  have hDr : va_D (fun q => b0 ≤ q) [(act, .inr (5, [.int 0, .ref en.2.2.1, .int 0]))] := hDD.sub [1] (by decide) rfl
  have hAb := en_A (sz := s.heap.size) hD0 hb0
  have hD := hD0.self (sz := s.heap.size)
  generalize hAe : va_A [(mm, .inr (24, [.int 0, .ref stu, .ref cla, .ref pic, .ref act, .int 5, .int 50, .ref nts, .ref isn, .int 1600, .ref boa, .ref mas, .ref pai, .ref sol, .int 0, .ref bal, .ref leg]))] s.heap.size = A at hD hAb hN0 ⊢
  have hA : ∀ q : Nat, s.heap.size ≤ q → A q := fun q h => by rw [← hAe]; exact Or.inr h
  have hS : va_S A s.heap s.heap [] := va_S.rf
  have hR := hR0
  have hl := lv_entry [.ref mm] (n := 1) (Nat.le_of_ble_eq_true rfl)
  rw [lg_entry_eq]
  generalize (lg_sl [.ref mm] ++ List.replicate (1 - (lg_sl [.ref mm]).length) Slot.unset).toArray = ls at hl ⊢
  have hl : lv_has ls 1 [(0, .ref mm)] := hl
  refine lv_aload_n hx hb dX18_acts_0 rfl (lv_at hl 0 rfl) ?_
  refine lv_iconst (v := 0) hx hb dX18_acts_1 (by decide) ?_
  refine va_put (D := (dC, dI)) (ci := 24) (v := .int 0) (ty := .int) (C := RX18) (T := TX18) (N := 17) hx hb hts (by decide +kernel) tyX18 tyX18_ok nmX18 hown hK hP hD hS 0 rfl rfl 0 (by decide) (hts (.fieldLink RX18 67 "UnderpaintModel" "code" "I") (by decide +kernel)) (fun _ h9 => h9) rfl (by decide +kernel) rfl rfl (Nat.le_of_ble_eq_true rfl) dX18_acts_2 (fun H locs hP hD hS => ?_)
  have hP : va_P (dC, dI) vwCl [(mm, .inr (24, [.int 0, .ref stu, .ref cla, .ref pic, .ref act, .int 5, .int 50, .ref nts, .ref isn, .int 1600, .ref boa, .ref mas, .ref pai, .ref sol, .int 0, .ref bal, .ref leg]))] H := hP
  have hD : va_D A [(mm, .inr (24, [.int 0, .ref stu, .ref cla, .ref pic, .ref act, .int 5, .int 50, .ref nts, .ref isn, .int 1600, .ref boa, .ref mas, .ref pai, .ref sol, .int 0, .ref bal, .ref leg]))] := hD
  have hR := en_R hR0 hN0 hS
  refine lv_aload_n hx hb dX18_acts_5 rfl (lv_at hl 0 rfl) ?_
  refine va_get (D := (dC, dI)) (ci := 24) (v := .ref act) (C := RX18) (T := TX18) (N := 17) hx hb hts (by decide +kernel) hown hK hP 0 rfl rfl 4 (by decide) (hts (.fieldLink RX18 29 "UnderpaintModel" "acts" "Ljava/util/List;") (by decide +kernel)) (fun _ h9 => h9) rfl dX18_acts_6 ?_
  have hPc := (hP.app hR).sub (ws' := [] ++ [(act, .inr (5, [.int 0, .ref en.2.2.1, .int 0]))]) [1] rfl
  have hDc := (en_DD hD hDr hN0 hAb).sub (ws' := [] ++ [(act, .inr (5, [.int 0, .ref en.2.2.1, .int 0]))]) [1] (by decide) rfl
  have hKc := hK.sub (tys' := []) [] rfl
  have hFc := va_free (wc := []) hD hS hA [] rfl
  refine va_callFi (va_runF (As := []) (rest := []) (hK.1 5 _ rfl).2 ⟨hx, hb, hml, hown, hts⟩ (c_Jx4a65c_size l dC dI b0 en H.size act en.2.2.1 0 0) (va_cwF 0 hts gX18_acts_Jx4a65c_size_8abf5_f74Jx4a65c rfl rfl rfl (hE.face ("java/util/ArrayList", ⟨"java/util/List", "size", "()I"⟩, ⟨"java/util/ArrayList", "size", "()I"⟩) (by decide +kernel)) (by decide +kernel) ⟨Nat.le_of_ble_eq_true rfl, Nat.le_of_ble_eq_true rfl⟩) ⟨cP.blind, va_recv hK hR (ci := 5) (q0 := 0) rfl rfl, cP.use (en_z hb0 hS) (hE.on hAb hS) hPc hKc hDc trivial⟩ rfl rfl hl.1 rfl (lv_room (Nat.le_of_ble_eq_true rfl)) dX18_acts_9 ⟨Nat.le_of_ble_eq_true rfl, Nat.le_of_ble_eq_true rfl⟩) hS (fun q _ h => hFc q h) hFc (fun r_1 u t H1 locs ht hvm hw hB hz1 hk1 hS => ?_)
  have hP1 : va_P (dC, dI) vwCl [] H1 := fun k q h => by simp at h
  have hD1 : va_D (va_A [] H.size) [] := ⟨fun i j p q h => by simp at h, fun k q h => by simp at h⟩
  try dsimp only at hw
  obtain ⟨hP, hD⟩ := va_join (wr := [(mm, .inr (24, [.int 0, .ref stu, .ref cla, .ref pic, .ref act, .int 5, .int 50, .ref nts, .ref isn, .int 1600, .ref boa, .ref mas, .ref pai, .ref sol, .int 0, .ref bal, .ref leg]))]) (w1 := []) hP hD [] [0] rfl rfl (by decide) (by decide) hk1 hFc hP1 hD1
  generalize H1 = H at hP hS ⊢
  have hP : va_P (dC, dI) vwCl [(mm, .inr (24, [.int 0, .ref stu, .ref cla, .ref pic, .ref act, .int 5, .int 50, .ref nts, .ref isn, .int 1600, .ref boa, .ref mas, .ref pai, .ref sol, .int 0, .ref bal, .ref leg]))] H := hP
  have hD : va_D A [(mm, .inr (24, [.int 0, .ref stu, .ref cla, .ref pic, .ref act, .int 5, .int 50, .ref nts, .ref isn, .int 1600, .ref boa, .ref mas, .ref pai, .ref sol, .int 0, .ref bal, .ref leg]))] := hD
  have hR := en_R hR0 hN0 hS
  refine W.widen (k := 0) (n := 0) (Nat.le_of_ble_eq_true rfl) (Nat.le_of_ble_eq_true rfl) ?_
  subst r_1
  refine W.widen (k := 0) (n := 0) (Nat.le_of_ble_eq_true rfl) (Nat.le_of_ble_eq_true rfl) ?_
  exact W.iret (v := 0) hx hb hr (fun t ht hW => ⟨⟨0, ⟨0, [.ref stu, .ref cla, .ref pic, .ref act, .int 5, .int 50, .ref nts, .ref isn, .int 1600, .ref boa, .ref mas, .ref pai, .ref sol, .int 0, .ref bal, .ref leg]⟩, rfl, (z_c_X18_acts_28), cB.mk ht hW (hP.sub [0] rfl) (hK.sub [] rfl) (hD.sub [0] (by decide) rfl) (trivial)⟩, hS.F ht⟩) hS.2.2 dX18_acts_14

set_option maxHeartbeats 4000000 in
set_option maxRecDepth 100000 in
theorem c_X18_scratches (l : Launch) (dC : Nat → ClassId) (dI : Nat → Nat → Nat) (b0 : Nat) (en : EnT) (sz : Nat) (mm stu cla pic act nts isn boa mas pai sol bal leg : Nat) (ap scr : Nat) : Met l yX18_scratches wsX18_scratches ({ frames := 1, cells := 0, slots := 0, locals := 20 } : Room) (cP b0 en (dC, dI) [] [(mm, .inr (24, [.int 0, .ref stu, .ref cla, .ref pic, .ref act, .int 5, .int 50, .ref nts, .ref isn, .int 1600, .ref boa, .ref mas, .ref pai, .ref sol, .int 0, .ref bal, .ref leg]))] [(pic, .inr (20, [.ref ap, .ref scr, .int 1600, .int 0, .int 0, .ref mm])), (scr, .inr (5, [.int 0, .ref en.2.2.1, .int 0]))] sz (fun _ => True) [.ref mm]) (va_Qi (fun (r : Int32) (u : Int32 × List Value) => u.1 = 0 ∧ r = 0) (fun u t => cB (dC, dI) [] [(mm, .inr (24, .int u.1 :: u.2))] (va_A [(mm, .inr (24, [.int 0, .ref stu, .ref cla, .ref pic, .ref act, .int 5, .int 50, .ref nts, .ref isn, .int 1600, .ref boa, .ref mas, .ref pai, .ref sol, .int 0, .ref bal, .ref leg]))] sz) (fun _ => True) t) (va_A [(mm, .inr (24, [.int 0, .ref stu, .ref cla, .ref pic, .ref act, .int 5, .int 50, .ref nts, .ref isn, .int 1600, .ref boa, .ref mas, .ref pai, .ref sol, .int 0, .ref bal, .ref leg]))] sz)) 0 0 (va_A [(mm, .inr (24, [.int 0, .ref stu, .ref cla, .ref pic, .ref act, .int 5, .int 50, .ref nts, .ref isn, .int 1600, .ref boa, .ref mas, .ref pai, .ref sol, .int 0, .ref bal, .ref leg]))] sz) := by
  refine Met.ofW (cc := cX18_scratches) (maxL := 1) (ret := (some .int)) (by decide) rfl ?_
  intro p e s m args below meth c s₁ B hml hv
  obtain ⟨rfl, hsz, hb0, hE, hPP, hK, hDD, hF0⟩ := hv
  have hx := B.exec
  have hb := B.bytes
  have hr := B.returns
  have hts := atoms_spec (ws := wsX18_scratches) B.pre
  have hown : s.vm.findClass RX18 = some m.cls := findClass_of_methodNamed B.named
  have hlocks := B.notSynchronized
  subst hsz
  have hN0 := en_N hPP hDD rfl
  have hP : va_P (dC, dI) vwCl [(mm, .inr (24, [.int 0, .ref stu, .ref cla, .ref pic, .ref act, .int 5, .int 50, .ref nts, .ref isn, .int 1600, .ref boa, .ref mas, .ref pai, .ref sol, .int 0, .ref bal, .ref leg]))] s.heap := hPP.sub [0] rfl
  have hR0 : va_P (dC, dI) vwCl [(pic, .inr (20, [.ref ap, .ref scr, .int 1600, .int 0, .int 0, .ref mm])), (scr, .inr (5, [.int 0, .ref en.2.2.1, .int 0]))] s.heap := hPP.sub [1, 2] rfl
  have hD0 : va_D (fun q => b0 ≤ q) [(mm, .inr (24, [.int 0, .ref stu, .ref cla, .ref pic, .ref act, .int 5, .int 50, .ref nts, .ref isn, .int 1600, .ref boa, .ref mas, .ref pai, .ref sol, .int 0, .ref bal, .ref leg]))] := hDD.sub [0] (by decide) rfl
  have hDr : va_D (fun q => b0 ≤ q) [(pic, .inr (20, [.ref ap, .ref scr, .int 1600, .int 0, .int 0, .ref mm])), (scr, .inr (5, [.int 0, .ref en.2.2.1, .int 0]))] := hDD.sub [1, 2] (by decide) rfl
  have hAb := en_A (sz := s.heap.size) hD0 hb0
  have hD := hD0.self (sz := s.heap.size)
  generalize hAe : va_A [(mm, .inr (24, [.int 0, .ref stu, .ref cla, .ref pic, .ref act, .int 5, .int 50, .ref nts, .ref isn, .int 1600, .ref boa, .ref mas, .ref pai, .ref sol, .int 0, .ref bal, .ref leg]))] s.heap.size = A at hD hAb hN0 ⊢
  have hA : ∀ q : Nat, s.heap.size ≤ q → A q := fun q h => by rw [← hAe]; exact Or.inr h
  have hS : va_S A s.heap s.heap [] := va_S.rf
  have hR := hR0
  have hl := lv_entry [.ref mm] (n := 1) (Nat.le_of_ble_eq_true rfl)
  rw [lg_entry_eq]
  generalize (lg_sl [.ref mm] ++ List.replicate (1 - (lg_sl [.ref mm]).length) Slot.unset).toArray = ls at hl ⊢
  have hl : lv_has ls 1 [(0, .ref mm)] := hl
  refine lv_aload_n hx hb dX18_scratches_0 rfl (lv_at hl 0 rfl) ?_
  refine lv_iconst (v := 0) hx hb dX18_scratches_1 (by decide) ?_
  refine va_put (D := (dC, dI)) (ci := 24) (v := .int 0) (ty := .int) (C := RX18) (T := TX18) (N := 17) hx hb hts (by decide +kernel) tyX18 tyX18_ok nmX18 hown hK hP hD hS 0 rfl rfl 0 (by decide) (hts (.fieldLink RX18 67 "UnderpaintModel" "code" "I") (by decide +kernel)) (fun _ h9 => h9) rfl (by decide +kernel) rfl rfl (Nat.le_of_ble_eq_true rfl) dX18_scratches_2 (fun H locs hP hD hS => ?_)
  have hP : va_P (dC, dI) vwCl [(mm, .inr (24, [.int 0, .ref stu, .ref cla, .ref pic, .ref act, .int 5, .int 50, .ref nts, .ref isn, .int 1600, .ref boa, .ref mas, .ref pai, .ref sol, .int 0, .ref bal, .ref leg]))] H := hP
  have hD : va_D A [(mm, .inr (24, [.int 0, .ref stu, .ref cla, .ref pic, .ref act, .int 5, .int 50, .ref nts, .ref isn, .int 1600, .ref boa, .ref mas, .ref pai, .ref sol, .int 0, .ref bal, .ref leg]))] := hD
  have hR := en_R hR0 hN0 hS
  refine lv_aload_n hx hb dX18_scratches_5 rfl (lv_at hl 0 rfl) ?_
  refine va_get (D := (dC, dI)) (ci := 24) (v := .ref pic) (C := RX18) (T := TX18) (N := 17) hx hb hts (by decide +kernel) hown hK hP 0 rfl rfl 3 (by decide) (hts (.fieldLink RX18 25 "UnderpaintModel" "picture" "LUnderpaintModel$Picture;") (by decide +kernel)) (fun _ h9 => h9) rfl dX18_scratches_6 ?_
  refine va_getN (D := (dC, dI)) (ci := 20) (v := .ref scr) (C := RX14) (T := TX14) (N := 6) hx hb hts (by decide +kernel) hown hK hR 0 rfl rfl 1 (by decide) (va_Nw.use rfl (hE.nf ("UnderpaintModel", 256, "UnderpaintModel$Picture", "scratches", "Ljava/util/List;", "UnderpaintModel") (by decide +kernel))) (fun _ h9 => h9) rfl dX18_scratches_9 ?_
  have hPc := (hP.app hR).sub (ws' := [] ++ [(scr, .inr (5, [.int 0, .ref en.2.2.1, .int 0]))]) [2] rfl
  have hDc := (en_DD hD hDr hN0 hAb).sub (ws' := [] ++ [(scr, .inr (5, [.int 0, .ref en.2.2.1, .int 0]))]) [2] (by decide) rfl
  have hKc := hK.sub (tys' := []) [] rfl
  have hFc := va_free (wc := []) hD hS hA [] rfl
  refine va_callFi (va_runF (As := []) (rest := []) (hK.1 5 _ rfl).2 ⟨hx, hb, hml, hown, hts⟩ (c_Jx4a65c_size l dC dI b0 en H.size scr en.2.2.1 0 0) (va_cwF 0 hts gX18_scratches_Jx4a65c_size_8abf5_f74Jx4a65c rfl rfl rfl (hE.face ("java/util/ArrayList", ⟨"java/util/List", "size", "()I"⟩, ⟨"java/util/ArrayList", "size", "()I"⟩) (by decide +kernel)) (by decide +kernel) ⟨Nat.le_of_ble_eq_true rfl, Nat.le_of_ble_eq_true rfl⟩) ⟨cP.blind, va_recv hK hR (ci := 5) (q0 := 1) rfl rfl, cP.use (en_z hb0 hS) (hE.on hAb hS) hPc hKc hDc trivial⟩ rfl rfl hl.1 rfl (lv_room (Nat.le_of_ble_eq_true rfl)) dX18_scratches_12 ⟨Nat.le_of_ble_eq_true rfl, Nat.le_of_ble_eq_true rfl⟩) hS (fun q _ h => hFc q h) hFc (fun r_1 u t H1 locs ht hvm hw hB hz1 hk1 hS => ?_)
  have hP1 : va_P (dC, dI) vwCl [] H1 := fun k q h => by simp at h
  have hD1 : va_D (va_A [] H.size) [] := ⟨fun i j p q h => by simp at h, fun k q h => by simp at h⟩
  try dsimp only at hw
  obtain ⟨hP, hD⟩ := va_join (wr := [(mm, .inr (24, [.int 0, .ref stu, .ref cla, .ref pic, .ref act, .int 5, .int 50, .ref nts, .ref isn, .int 1600, .ref boa, .ref mas, .ref pai, .ref sol, .int 0, .ref bal, .ref leg]))]) (w1 := []) hP hD [] [0] rfl rfl (by decide) (by decide) hk1 hFc hP1 hD1
  generalize H1 = H at hP hS ⊢
  have hP : va_P (dC, dI) vwCl [(mm, .inr (24, [.int 0, .ref stu, .ref cla, .ref pic, .ref act, .int 5, .int 50, .ref nts, .ref isn, .int 1600, .ref boa, .ref mas, .ref pai, .ref sol, .int 0, .ref bal, .ref leg]))] H := hP
  have hD : va_D A [(mm, .inr (24, [.int 0, .ref stu, .ref cla, .ref pic, .ref act, .int 5, .int 50, .ref nts, .ref isn, .int 1600, .ref boa, .ref mas, .ref pai, .ref sol, .int 0, .ref bal, .ref leg]))] := hD
  have hR := en_R hR0 hN0 hS
  refine W.widen (k := 0) (n := 0) (Nat.le_of_ble_eq_true rfl) (Nat.le_of_ble_eq_true rfl) ?_
  subst r_1
  refine W.widen (k := 0) (n := 0) (Nat.le_of_ble_eq_true rfl) (Nat.le_of_ble_eq_true rfl) ?_
  exact W.iret (v := 0) hx hb hr (fun t ht hW => ⟨⟨0, ⟨0, [.ref stu, .ref cla, .ref pic, .ref act, .int 5, .int 50, .ref nts, .ref isn, .int 1600, .ref boa, .ref mas, .ref pai, .ref sol, .int 0, .ref bal, .ref leg]⟩, rfl, (z_c_X18_acts_28), cB.mk ht hW (hP.sub [0] rfl) (hK.sub [] rfl) (hD.sub [0] (by decide) rfl) (trivial)⟩, hS.F ht⟩) hS.2.2 dX18_scratches_17
theorem z_c_X18_year_29   : (0 : Int32) = 0 ∧ (1600 : Int32) = 1600 := by grind
set_option maxHeartbeats 4000000 in
set_option maxRecDepth 100000 in
theorem c_X18_year (l : Launch) (dC : Nat → ClassId) (dI : Nat → Nat → Nat) (b0 : Nat) (en : EnT) (sz : Nat) (mm stu cla pic act nts isn boa mas pai sol bal leg : Nat) (ap scr : Nat) : Met l yX18_year wsX18_year ({ frames := 0, cells := 0, slots := 0, locals := 0 } : Room) (cP b0 en (dC, dI) [] [(mm, .inr (24, [.int 0, .ref stu, .ref cla, .ref pic, .ref act, .int 5, .int 50, .ref nts, .ref isn, .int 1600, .ref boa, .ref mas, .ref pai, .ref sol, .int 0, .ref bal, .ref leg]))] [(pic, .inr (20, [.ref ap, .ref scr, .int 1600, .int 0, .int 0, .ref mm]))] sz (fun _ => True) [.ref mm]) (va_Qi (fun (r : Int32) (u : Int32 × List Value) => u.1 = 0 ∧ r = 1600) (fun u t => cB (dC, dI) [] [(mm, .inr (24, .int u.1 :: u.2))] (va_A [(mm, .inr (24, [.int 0, .ref stu, .ref cla, .ref pic, .ref act, .int 5, .int 50, .ref nts, .ref isn, .int 1600, .ref boa, .ref mas, .ref pai, .ref sol, .int 0, .ref bal, .ref leg]))] sz) (fun _ => True) t) (va_A [(mm, .inr (24, [.int 0, .ref stu, .ref cla, .ref pic, .ref act, .int 5, .int 50, .ref nts, .ref isn, .int 1600, .ref boa, .ref mas, .ref pai, .ref sol, .int 0, .ref bal, .ref leg]))] sz)) 0 0 (va_A [(mm, .inr (24, [.int 0, .ref stu, .ref cla, .ref pic, .ref act, .int 5, .int 50, .ref nts, .ref isn, .int 1600, .ref boa, .ref mas, .ref pai, .ref sol, .int 0, .ref bal, .ref leg]))] sz) := by
  refine Met.ofW (cc := cX18_year) (maxL := 1) (ret := (some .int)) (by decide) rfl ?_
  intro p e s m args below meth c s₁ B hml hv
  obtain ⟨rfl, hsz, hb0, hE, hPP, hK, hDD, hF0⟩ := hv
  have hx := B.exec
  have hb := B.bytes
  have hr := B.returns
  have hts := atoms_spec (ws := wsX18_year) B.pre
  have hown : s.vm.findClass RX18 = some m.cls := findClass_of_methodNamed B.named
  have hlocks := B.notSynchronized
  subst hsz
  have hN0 := en_N hPP hDD rfl
  have hP : va_P (dC, dI) vwCl [(mm, .inr (24, [.int 0, .ref stu, .ref cla, .ref pic, .ref act, .int 5, .int 50, .ref nts, .ref isn, .int 1600, .ref boa, .ref mas, .ref pai, .ref sol, .int 0, .ref bal, .ref leg]))] s.heap := hPP.sub [0] rfl
  have hR0 : va_P (dC, dI) vwCl [(pic, .inr (20, [.ref ap, .ref scr, .int 1600, .int 0, .int 0, .ref mm]))] s.heap := hPP.sub [1] rfl
  have hD0 : va_D (fun q => b0 ≤ q) [(mm, .inr (24, [.int 0, .ref stu, .ref cla, .ref pic, .ref act, .int 5, .int 50, .ref nts, .ref isn, .int 1600, .ref boa, .ref mas, .ref pai, .ref sol, .int 0, .ref bal, .ref leg]))] := hDD.sub [0] (by decide) rfl
  have hDr : va_D (fun q => b0 ≤ q) [(pic, .inr (20, [.ref ap, .ref scr, .int 1600, .int 0, .int 0, .ref mm]))] := hDD.sub [1] (by decide) rfl
  have hAb := en_A (sz := s.heap.size) hD0 hb0
  have hD := hD0.self (sz := s.heap.size)
  generalize hAe : va_A [(mm, .inr (24, [.int 0, .ref stu, .ref cla, .ref pic, .ref act, .int 5, .int 50, .ref nts, .ref isn, .int 1600, .ref boa, .ref mas, .ref pai, .ref sol, .int 0, .ref bal, .ref leg]))] s.heap.size = A at hD hAb hN0 ⊢
  have hA : ∀ q : Nat, s.heap.size ≤ q → A q := fun q h => by rw [← hAe]; exact Or.inr h
  have hS : va_S A s.heap s.heap [] := va_S.rf
  have hR := hR0
  have hl := lv_entry [.ref mm] (n := 1) (Nat.le_of_ble_eq_true rfl)
  rw [lg_entry_eq]
  generalize (lg_sl [.ref mm] ++ List.replicate (1 - (lg_sl [.ref mm]).length) Slot.unset).toArray = ls at hl ⊢
  have hl : lv_has ls 1 [(0, .ref mm)] := hl
  refine lv_aload_n hx hb dX18_year_0 rfl (lv_at hl 0 rfl) ?_
  refine lv_iconst (v := 0) hx hb dX18_year_1 (by decide) ?_
  refine va_put (D := (dC, dI)) (ci := 24) (v := .int 0) (ty := .int) (C := RX18) (T := TX18) (N := 17) hx hb hts (by decide +kernel) tyX18 tyX18_ok nmX18 hown hK hP hD hS 0 rfl rfl 0 (by decide) (hts (.fieldLink RX18 67 "UnderpaintModel" "code" "I") (by decide +kernel)) (fun _ h9 => h9) rfl (by decide +kernel) rfl rfl (Nat.le_of_ble_eq_true rfl) dX18_year_2 (fun H locs hP hD hS => ?_)
  have hP : va_P (dC, dI) vwCl [(mm, .inr (24, [.int 0, .ref stu, .ref cla, .ref pic, .ref act, .int 5, .int 50, .ref nts, .ref isn, .int 1600, .ref boa, .ref mas, .ref pai, .ref sol, .int 0, .ref bal, .ref leg]))] H := hP
  have hD : va_D A [(mm, .inr (24, [.int 0, .ref stu, .ref cla, .ref pic, .ref act, .int 5, .int 50, .ref nts, .ref isn, .int 1600, .ref boa, .ref mas, .ref pai, .ref sol, .int 0, .ref bal, .ref leg]))] := hD
  have hR := en_R hR0 hN0 hS
  refine lv_aload_n hx hb dX18_year_5 rfl (lv_at hl 0 rfl) ?_
  refine va_get (D := (dC, dI)) (ci := 24) (v := .ref pic) (C := RX18) (T := TX18) (N := 17) hx hb hts (by decide +kernel) hown hK hP 0 rfl rfl 3 (by decide) (hts (.fieldLink RX18 25 "UnderpaintModel" "picture" "LUnderpaintModel$Picture;") (by decide +kernel)) (fun _ h9 => h9) rfl dX18_year_6 ?_
  refine va_getN (D := (dC, dI)) (ci := 20) (v := .int 1600) (C := RX14) (T := TX14) (N := 6) hx hb hts (by decide +kernel) hown hK hR 0 rfl rfl 2 (by decide) (va_Nw.use rfl (hE.nf ("UnderpaintModel", 176, "UnderpaintModel$Picture", "year", "I", "UnderpaintModel") (by decide +kernel))) (fun _ h9 => h9) rfl dX18_year_9 ?_
  refine W.widen (k := 0) (n := 0) (Nat.le_of_ble_eq_true rfl) (Nat.le_of_ble_eq_true rfl) ?_
  exact W.iret (v := 1600) hx hb hr (fun t ht hW => ⟨⟨1600, ⟨0, [.ref stu, .ref cla, .ref pic, .ref act, .int 5, .int 50, .ref nts, .ref isn, .int 1600, .ref boa, .ref mas, .ref pai, .ref sol, .int 0, .ref bal, .ref leg]⟩, rfl, (z_c_X18_year_29), cB.mk ht hW (hP.sub [0] rfl) (hK.sub [] rfl) (hD.sub [0] (by decide) rfl) (trivial)⟩, hS.F ht⟩) hS.2.2 dX18_year_12

set_option maxHeartbeats 4000000 in
set_option maxRecDepth 100000 in
theorem c_X18_lend (l : Launch) (dC : Nat → ClassId) (dI : Nat → Nat → Nat) (b0 : Nat) (en : EnT) (sz : Nat) (mm stu cla pic act nts isn boa mas pai sol bal leg : Nat) : Met l yX18_lend wsX18_lend ({ frames := 1, cells := 0, slots := 0, locals := 21 } : Room) (cP b0 en (dC, dI) [] [(mm, .inr (24, [.int 0, .ref stu, .ref cla, .ref pic, .ref act, .int 5, .int 50, .ref nts, .ref isn, .int 1600, .ref boa, .ref mas, .ref pai, .ref sol, .int 0, .ref bal, .ref leg]))] [(leg, .inr (5, [.int 0, .ref en.2.2.1, .int 0]))] sz (fun _ => True) [.ref mm]) (va_Qi (fun (r : Int32) (u : Int32 × List Value) => u.1 = 1) (fun u t => cB (dC, dI) [] [(mm, .inr (24, .int u.1 :: u.2))] (va_A [(mm, .inr (24, [.int 0, .ref stu, .ref cla, .ref pic, .ref act, .int 5, .int 50, .ref nts, .ref isn, .int 1600, .ref boa, .ref mas, .ref pai, .ref sol, .int 0, .ref bal, .ref leg]))] sz) (fun _ => True) t) (va_A [(mm, .inr (24, [.int 0, .ref stu, .ref cla, .ref pic, .ref act, .int 5, .int 50, .ref nts, .ref isn, .int 1600, .ref boa, .ref mas, .ref pai, .ref sol, .int 0, .ref bal, .ref leg]))] sz)) 0 0 (va_A [(mm, .inr (24, [.int 0, .ref stu, .ref cla, .ref pic, .ref act, .int 5, .int 50, .ref nts, .ref isn, .int 1600, .ref boa, .ref mas, .ref pai, .ref sol, .int 0, .ref bal, .ref leg]))] sz) := by
  refine Met.ofW (cc := cX18_lend) (maxL := 2) (ret := (some .int)) (by decide) rfl ?_
  intro p e s m args below meth c s₁ B hml hv
  obtain ⟨rfl, hsz, hb0, hE, hPP, hK, hDD, hF0⟩ := hv
  have hx := B.exec
  have hb := B.bytes
  have hr := B.returns
  have hts := atoms_spec (ws := wsX18_lend) B.pre
  have hown : s.vm.findClass RX18 = some m.cls := findClass_of_methodNamed B.named
  have hlocks := B.notSynchronized
  subst hsz
  have hN0 := en_N hPP hDD rfl
  have hP : va_P (dC, dI) vwCl [(mm, .inr (24, [.int 0, .ref stu, .ref cla, .ref pic, .ref act, .int 5, .int 50, .ref nts, .ref isn, .int 1600, .ref boa, .ref mas, .ref pai, .ref sol, .int 0, .ref bal, .ref leg]))] s.heap := hPP.sub [0] rfl
  have hR0 : va_P (dC, dI) vwCl [(leg, .inr (5, [.int 0, .ref en.2.2.1, .int 0]))] s.heap := hPP.sub [1] rfl
  have hD0 : va_D (fun q => b0 ≤ q) [(mm, .inr (24, [.int 0, .ref stu, .ref cla, .ref pic, .ref act, .int 5, .int 50, .ref nts, .ref isn, .int 1600, .ref boa, .ref mas, .ref pai, .ref sol, .int 0, .ref bal, .ref leg]))] := hDD.sub [0] (by decide) rfl
  have hDr : va_D (fun q => b0 ≤ q) [(leg, .inr (5, [.int 0, .ref en.2.2.1, .int 0]))] := hDD.sub [1] (by decide) rfl
  have hAb := en_A (sz := s.heap.size) hD0 hb0
  have hD := hD0.self (sz := s.heap.size)
  generalize hAe : va_A [(mm, .inr (24, [.int 0, .ref stu, .ref cla, .ref pic, .ref act, .int 5, .int 50, .ref nts, .ref isn, .int 1600, .ref boa, .ref mas, .ref pai, .ref sol, .int 0, .ref bal, .ref leg]))] s.heap.size = A at hD hAb hN0 ⊢
  have hA : ∀ q : Nat, s.heap.size ≤ q → A q := fun q h => by rw [← hAe]; exact Or.inr h
  have hS : va_S A s.heap s.heap [] := va_S.rf
  have hR := hR0
  have hl := lv_entry [.ref mm] (n := 2) (Nat.le_of_ble_eq_true rfl)
  rw [lg_entry_eq]
  generalize (lg_sl [.ref mm] ++ List.replicate (2 - (lg_sl [.ref mm]).length) Slot.unset).toArray = ls at hl ⊢
  have hl : lv_has ls 2 [(0, .ref mm)] := hl
  refine lv_aload_n hx hb dX18_lend_0 rfl (lv_at hl 0 rfl) ?_
  refine lv_iconst (v := 0) hx hb dX18_lend_1 (by decide) ?_
  refine va_put (D := (dC, dI)) (ci := 24) (v := .int 0) (ty := .int) (C := RX18) (T := TX18) (N := 17) hx hb hts (by decide +kernel) tyX18 tyX18_ok nmX18 hown hK hP hD hS 0 rfl rfl 0 (by decide) (hts (.fieldLink RX18 67 "UnderpaintModel" "code" "I") (by decide +kernel)) (fun _ h9 => h9) rfl (by decide +kernel) rfl rfl (Nat.le_of_ble_eq_true rfl) dX18_lend_2 (fun H locs hP hD hS => ?_)
  have hP : va_P (dC, dI) vwCl [(mm, .inr (24, [.int 0, .ref stu, .ref cla, .ref pic, .ref act, .int 5, .int 50, .ref nts, .ref isn, .int 1600, .ref boa, .ref mas, .ref pai, .ref sol, .int 0, .ref bal, .ref leg]))] H := hP
  have hD : va_D A [(mm, .inr (24, [.int 0, .ref stu, .ref cla, .ref pic, .ref act, .int 5, .int 50, .ref nts, .ref isn, .int 1600, .ref boa, .ref mas, .ref pai, .ref sol, .int 0, .ref bal, .ref leg]))] := hD
  have hR := en_R hR0 hN0 hS
  refine lv_aload_n hx hb dX18_lend_5 rfl (lv_at hl 0 rfl) ?_
  refine va_get (D := (dC, dI)) (ci := 24) (v := .ref leg) (C := RX18) (T := TX18) (N := 17) hx hb hts (by decide +kernel) hown hK hP 0 rfl rfl 16 (by decide) (hts (.fieldLink RX18 64 "UnderpaintModel" "legs" "Ljava/util/List;") (by decide +kernel)) (fun _ h9 => h9) rfl dX18_lend_6 ?_
  have hPc := (hP.app hR).sub (ws' := [] ++ [(leg, .inr (5, [.int 0, .ref en.2.2.1, .int 0]))]) [1] rfl
  have hDc := (en_DD hD hDr hN0 hAb).sub (ws' := [] ++ [(leg, .inr (5, [.int 0, .ref en.2.2.1, .int 0]))]) [1] (by decide) rfl
  have hKc := hK.sub (tys' := []) [] rfl
  have hFc := va_free (wc := []) hD hS hA [] rfl
  refine va_callFi (va_runF (As := []) (rest := []) (hK.1 5 _ rfl).2 ⟨hx, hb, hml, hown, hts⟩ (c_isEmpty0 l dC dI b0 en H.size leg en.2.2.1 0) (va_cwF 0 hts gX18_lend_Jx4a65c_isEmpty_aae02_f107Jx4a65c rfl rfl rfl (hE.face ("java/util/ArrayList", ⟨"java/util/List", "isEmpty", "()Z"⟩, ⟨"java/util/ArrayList", "isEmpty", "()Z"⟩) (by decide +kernel)) (by decide +kernel) ⟨Nat.le_of_ble_eq_true rfl, Nat.le_of_ble_eq_true rfl⟩) ⟨cP.blind, va_recv hK hR (ci := 5) (q0 := 0) rfl rfl, cP.use (en_z hb0 hS) (hE.on hAb hS) hPc hKc hDc trivial⟩ rfl rfl hl.1 rfl (lv_room (Nat.le_of_ble_eq_true rfl)) dX18_lend_9 ⟨Nat.le_of_ble_eq_true rfl, Nat.le_of_ble_eq_true rfl⟩) hS (fun q _ h => hFc q h) hFc (fun r_1 u t H1 locs ht hvm hw hB hz1 hk1 hS => ?_)
  have hP1 : va_P (dC, dI) vwCl [] H1 := fun k q h => by simp at h
  have hD1 : va_D (va_A [] H.size) [] := ⟨fun i j p q h => by simp at h, fun k q h => by simp at h⟩
  try dsimp only at hw
  obtain ⟨hP, hD⟩ := va_join (wr := [(mm, .inr (24, [.int 0, .ref stu, .ref cla, .ref pic, .ref act, .int 5, .int 50, .ref nts, .ref isn, .int 1600, .ref boa, .ref mas, .ref pai, .ref sol, .int 0, .ref bal, .ref leg]))]) (w1 := []) hP hD [] [0] rfl rfl (by decide) (by decide) hk1 hFc hP1 hD1
  generalize H1 = H at hP hS ⊢
  have hP : va_P (dC, dI) vwCl [(mm, .inr (24, [.int 0, .ref stu, .ref cla, .ref pic, .ref act, .int 5, .int 50, .ref nts, .ref isn, .int 1600, .ref boa, .ref mas, .ref pai, .ref sol, .int 0, .ref bal, .ref leg]))] H := hP
  have hD : va_D A [(mm, .inr (24, [.int 0, .ref stu, .ref cla, .ref pic, .ref act, .int 5, .int 50, .ref nts, .ref isn, .int 1600, .ref boa, .ref mas, .ref pai, .ref sol, .int 0, .ref bal, .ref leg]))] := hD
  have hR := en_R hR0 hN0 hS
  refine W.widen (k := 0) (n := 0) (Nat.le_of_ble_eq_true rfl) (Nat.le_of_ble_eq_true rfl) ?_
  subst r_1
  refine lv_if_eq (tgt := 23) hx hb dX18_lend_14 (by decide) (fun c_2 => absurd c_2 (by decide)) (fun c_2 => ?_)
  refine lv_aload_n hx hb dX18_lend_17 rfl (lv_at hl 0 rfl) ?_
  refine lv_iconst (v := 1) hx hb dX18_lend_18 (by decide) ?_
  have hPc := (hP.app hR).sub (ws' := [(mm, .inr (24, .int 0 :: ([.ref stu, .ref cla, .ref pic, .ref act, .int 5, .int 50, .ref nts, .ref isn, .int 1600, .ref boa, .ref mas, .ref pai, .ref sol, .int 0, .ref bal, .ref leg])))] ++ []) [0] rfl
  have hDc := (en_DD hD hDr hN0 hAb).sub (ws' := [(mm, .inr (24, .int 0 :: ([.ref stu, .ref cla, .ref pic, .ref act, .int 5, .int 50, .ref nts, .ref isn, .int 1600, .ref boa, .ref mas, .ref pai, .ref sol, .int 0, .ref bal, .ref leg])))] ++ []) [0] (by decide) rfl
  have hKc := hK.sub (tys' := []) [] rfl
  have hFc := va_free (wc := [(mm, .inr (24, .int 0 :: ([.ref stu, .ref cla, .ref pic, .ref act, .int 5, .int 50, .ref nts, .ref isn, .int 1600, .ref boa, .ref mas, .ref pai, .ref sol, .int 0, .ref bal, .ref leg])))]) hD hS hA [0] rfl
  refine va_calli (va_runV (As := [.int 1]) (rest := []) ⟨hx, hb, hml, hown, hts⟩ (c_X18_fails l dC dI b0 en H.size mm 0 1 ([.ref stu, .ref cla, .ref pic, .ref act, .int 5, .int 50, .ref nts, .ref isn, .int 1600, .ref boa, .ref mas, .ref pai, .ref sol, .int 0, .ref bal, .ref leg])) (cwV 1 hts gX18_lend_X18_fails rfl rfl rfl (by decide +kernel) ⟨Nat.le_of_ble_eq_true rfl, Nat.le_of_ble_eq_true rfl⟩) ⟨cP.blind, va_recv hK hP (ci := 24) (q0 := 0) rfl rfl, cP.use (en_z hb0 hS) (hE.on hAb hS) hPc hKc hDc trivial⟩ rfl rfl hl.1 rfl (lv_room (Nat.le_of_ble_eq_true rfl)) dX18_lend_19 ⟨Nat.le_of_ble_eq_true rfl, Nat.le_of_ble_eq_true rfl⟩) hS (fun q _ h => hFc q h) hFc (fun r_3 u t H1 locs ht hvm hw hB hz1 hk1 hS => ?_)
  obtain ⟨hP1, hK1, hD1, hF1⟩ := hB
  rw [ht] at hP1
  try rw [ht] at hF1
  have hK1 := va_K.moved hvm.symm hK1
  try dsimp only at hw
  obtain ⟨hP, hD⟩ := va_join (wr := []) (w1 := [(mm, .inr (24, [.int 1, .ref stu, .ref cla, .ref pic, .ref act, .int 5, .int 50, .ref nts, .ref isn, .int 1600, .ref boa, .ref mas, .ref pai, .ref sol, .int 0, .ref bal, .ref leg]))]) hP hD [0] [] rfl rfl (by decide) (by decide) hk1 hFc hP1 hD1
  generalize H1 = H at hP hS ⊢
  have hP : va_P (dC, dI) vwCl [(mm, .inr (24, [.int 1, .ref stu, .ref cla, .ref pic, .ref act, .int 5, .int 50, .ref nts, .ref isn, .int 1600, .ref boa, .ref mas, .ref pai, .ref sol, .int 0, .ref bal, .ref leg]))] H := hP
  have hD : va_D A [(mm, .inr (24, [.int 1, .ref stu, .ref cla, .ref pic, .ref act, .int 5, .int 50, .ref nts, .ref isn, .int 1600, .ref boa, .ref mas, .ref pai, .ref sol, .int 0, .ref bal, .ref leg]))] := hD
  have hR := en_R hR0 hN0 hS
  refine W.widen (k := 0) (n := 0) (Nat.le_of_ble_eq_true rfl) (Nat.le_of_ble_eq_true rfl) ?_
  subst r_3
  refine W.widen (k := 0) (n := 0) (Nat.le_of_ble_eq_true rfl) (Nat.le_of_ble_eq_true rfl) ?_
  exact W.iret (v := 0) hx hb hr (fun t ht hW => ⟨⟨0, ⟨1, [.ref stu, .ref cla, .ref pic, .ref act, .int 5, .int 50, .ref nts, .ref isn, .int 1600, .ref boa, .ref mas, .ref pai, .ref sol, .int 0, .ref bal, .ref leg]⟩, rfl, (z_c_isEmpty0_22), cB.mk ht hW (hP.sub [0] rfl) (hK.sub [] rfl) (hD.sub [0] (by decide) rfl) (trivial)⟩, hS.F ht⟩) hS.2.2 dX18_lend_22

set_option maxHeartbeats 4000000 in
set_option maxRecDepth 100000 in
theorem c_X18_boardAt (l : Launch) (dC : Nat → ClassId) (dI : Nat → Nat → Nat) (b0 : Nat) (en : EnT) (sz : Nat) (mm stu cla pic act nts isn boa mas pai sol bal leg : Nat) : Met l yX18_boardAt wsX18_boardAt ({ frames := 1, cells := 0, slots := 0, locals := 21 } : Room) (cP b0 en (dC, dI) [] [(mm, .inr (24, [.int 0, .ref stu, .ref cla, .ref pic, .ref act, .int 5, .int 50, .ref nts, .ref isn, .int 1600, .ref boa, .ref mas, .ref pai, .ref sol, .int 0, .ref bal, .ref leg]))] [(boa, .inr (5, [.int 0, .ref en.2.2.1, .int 0]))] sz (fun _ => True) [.ref mm]) (va_Qi (fun (r : Int32) (u : Int32 × List Value) => u.1 = 1) (fun u t => cB (dC, dI) [] [(mm, .inr (24, .int u.1 :: u.2))] (va_A [(mm, .inr (24, [.int 0, .ref stu, .ref cla, .ref pic, .ref act, .int 5, .int 50, .ref nts, .ref isn, .int 1600, .ref boa, .ref mas, .ref pai, .ref sol, .int 0, .ref bal, .ref leg]))] sz) (fun _ => True) t) (va_A [(mm, .inr (24, [.int 0, .ref stu, .ref cla, .ref pic, .ref act, .int 5, .int 50, .ref nts, .ref isn, .int 1600, .ref boa, .ref mas, .ref pai, .ref sol, .int 0, .ref bal, .ref leg]))] sz)) 0 0 (va_A [(mm, .inr (24, [.int 0, .ref stu, .ref cla, .ref pic, .ref act, .int 5, .int 50, .ref nts, .ref isn, .int 1600, .ref boa, .ref mas, .ref pai, .ref sol, .int 0, .ref bal, .ref leg]))] sz) := by
  refine Met.ofW (cc := cX18_boardAt) (maxL := 6) (ret := (some .int)) (by decide) rfl ?_
  intro p e s m args below meth c s₁ B hml hv
  obtain ⟨rfl, hsz, hb0, hE, hPP, hK, hDD, hF0⟩ := hv
  have hx := B.exec
  have hb := B.bytes
  have hr := B.returns
  have hts := atoms_spec (ws := wsX18_boardAt) B.pre
  have hown : s.vm.findClass RX18 = some m.cls := findClass_of_methodNamed B.named
  have hlocks := B.notSynchronized
  subst hsz
  have hN0 := en_N hPP hDD rfl
  have hP : va_P (dC, dI) vwCl [(mm, .inr (24, [.int 0, .ref stu, .ref cla, .ref pic, .ref act, .int 5, .int 50, .ref nts, .ref isn, .int 1600, .ref boa, .ref mas, .ref pai, .ref sol, .int 0, .ref bal, .ref leg]))] s.heap := hPP.sub [0] rfl
  have hR0 : va_P (dC, dI) vwCl [(boa, .inr (5, [.int 0, .ref en.2.2.1, .int 0]))] s.heap := hPP.sub [1] rfl
  have hD0 : va_D (fun q => b0 ≤ q) [(mm, .inr (24, [.int 0, .ref stu, .ref cla, .ref pic, .ref act, .int 5, .int 50, .ref nts, .ref isn, .int 1600, .ref boa, .ref mas, .ref pai, .ref sol, .int 0, .ref bal, .ref leg]))] := hDD.sub [0] (by decide) rfl
  have hDr : va_D (fun q => b0 ≤ q) [(boa, .inr (5, [.int 0, .ref en.2.2.1, .int 0]))] := hDD.sub [1] (by decide) rfl
  have hAb := en_A (sz := s.heap.size) hD0 hb0
  have hD := hD0.self (sz := s.heap.size)
  generalize hAe : va_A [(mm, .inr (24, [.int 0, .ref stu, .ref cla, .ref pic, .ref act, .int 5, .int 50, .ref nts, .ref isn, .int 1600, .ref boa, .ref mas, .ref pai, .ref sol, .int 0, .ref bal, .ref leg]))] s.heap.size = A at hD hAb hN0 ⊢
  have hA : ∀ q : Nat, s.heap.size ≤ q → A q := fun q h => by rw [← hAe]; exact Or.inr h
  have hS : va_S A s.heap s.heap [] := va_S.rf
  have hR := hR0
  have hl := lv_entry [.ref mm] (n := 6) (Nat.le_of_ble_eq_true rfl)
  rw [lg_entry_eq]
  generalize (lg_sl [.ref mm] ++ List.replicate (6 - (lg_sl [.ref mm]).length) Slot.unset).toArray = ls at hl ⊢
  have hl : lv_has ls 6 [(0, .ref mm)] := hl
  refine lv_aload_n hx hb dX18_boardAt_0 rfl (lv_at hl 0 rfl) ?_
  refine lv_iconst (v := 0) hx hb dX18_boardAt_1 (by decide) ?_
  refine va_put (D := (dC, dI)) (ci := 24) (v := .int 0) (ty := .int) (C := RX18) (T := TX18) (N := 17) hx hb hts (by decide +kernel) tyX18 tyX18_ok nmX18 hown hK hP hD hS 0 rfl rfl 0 (by decide) (hts (.fieldLink RX18 67 "UnderpaintModel" "code" "I") (by decide +kernel)) (fun _ h9 => h9) rfl (by decide +kernel) rfl rfl (Nat.le_of_ble_eq_true rfl) dX18_boardAt_2 (fun H locs hP hD hS => ?_)
  have hP : va_P (dC, dI) vwCl [(mm, .inr (24, [.int 0, .ref stu, .ref cla, .ref pic, .ref act, .int 5, .int 50, .ref nts, .ref isn, .int 1600, .ref boa, .ref mas, .ref pai, .ref sol, .int 0, .ref bal, .ref leg]))] H := hP
  have hD : va_D A [(mm, .inr (24, [.int 0, .ref stu, .ref cla, .ref pic, .ref act, .int 5, .int 50, .ref nts, .ref isn, .int 1600, .ref boa, .ref mas, .ref pai, .ref sol, .int 0, .ref bal, .ref leg]))] := hD
  have hR := en_R hR0 hN0 hS
  refine lv_aload_n hx hb dX18_boardAt_5 rfl (lv_at hl 0 rfl) ?_
  refine va_get (D := (dC, dI)) (ci := 24) (v := .ref boa) (C := RX18) (T := TX18) (N := 17) hx hb hts (by decide +kernel) hown hK hP 0 rfl rfl 10 (by decide) (hts (.fieldLink RX18 49 "UnderpaintModel" "board" "Ljava/util/List;") (by decide +kernel)) (fun _ h9 => h9) rfl dX18_boardAt_6 ?_
  have hPc := (hP.app hR).sub (ws' := [] ++ [(boa, .inr (5, [.int 0, .ref en.2.2.1, .int 0]))]) [1] rfl
  have hDc := (en_DD hD hDr hN0 hAb).sub (ws' := [] ++ [(boa, .inr (5, [.int 0, .ref en.2.2.1, .int 0]))]) [1] (by decide) rfl
  have hKc := hK.sub (tys' := []) [] rfl
  have hFc := va_free (wc := []) hD hS hA [] rfl
  refine va_callFi (va_runF (As := []) (rest := []) (hK.1 5 _ rfl).2 ⟨hx, hb, hml, hown, hts⟩ (c_isEmpty0 l dC dI b0 en H.size boa en.2.2.1 0) (va_cwF 0 hts gX18_boardAt_Jx4a65c_isEmpty_aae02_f107Jx4a65c rfl rfl rfl (hE.face ("java/util/ArrayList", ⟨"java/util/List", "isEmpty", "()Z"⟩, ⟨"java/util/ArrayList", "isEmpty", "()Z"⟩) (by decide +kernel)) (by decide +kernel) ⟨Nat.le_of_ble_eq_true rfl, Nat.le_of_ble_eq_true rfl⟩) ⟨cP.blind, va_recv hK hR (ci := 5) (q0 := 0) rfl rfl, cP.use (en_z hb0 hS) (hE.on hAb hS) hPc hKc hDc trivial⟩ rfl rfl hl.1 rfl (lv_room (Nat.le_of_ble_eq_true rfl)) dX18_boardAt_9 ⟨Nat.le_of_ble_eq_true rfl, Nat.le_of_ble_eq_true rfl⟩) hS (fun q _ h => hFc q h) hFc (fun r_1 u t H1 locs ht hvm hw hB hz1 hk1 hS => ?_)
  have hP1 : va_P (dC, dI) vwCl [] H1 := fun k q h => by simp at h
  have hD1 : va_D (va_A [] H.size) [] := ⟨fun i j p q h => by simp at h, fun k q h => by simp at h⟩
  try dsimp only at hw
  obtain ⟨hP, hD⟩ := va_join (wr := [(mm, .inr (24, [.int 0, .ref stu, .ref cla, .ref pic, .ref act, .int 5, .int 50, .ref nts, .ref isn, .int 1600, .ref boa, .ref mas, .ref pai, .ref sol, .int 0, .ref bal, .ref leg]))]) (w1 := []) hP hD [] [0] rfl rfl (by decide) (by decide) hk1 hFc hP1 hD1
  generalize H1 = H at hP hS ⊢
  have hP : va_P (dC, dI) vwCl [(mm, .inr (24, [.int 0, .ref stu, .ref cla, .ref pic, .ref act, .int 5, .int 50, .ref nts, .ref isn, .int 1600, .ref boa, .ref mas, .ref pai, .ref sol, .int 0, .ref bal, .ref leg]))] H := hP
  have hD : va_D A [(mm, .inr (24, [.int 0, .ref stu, .ref cla, .ref pic, .ref act, .int 5, .int 50, .ref nts, .ref isn, .int 1600, .ref boa, .ref mas, .ref pai, .ref sol, .int 0, .ref bal, .ref leg]))] := hD
  have hR := en_R hR0 hN0 hS
  refine W.widen (k := 0) (n := 0) (Nat.le_of_ble_eq_true rfl) (Nat.le_of_ble_eq_true rfl) ?_
  subst r_1
  refine lv_if_ne (tgt := 38) hx hb dX18_boardAt_14 (by decide) (fun c_2 => ?_) (fun c_2 => absurd c_2 (by decide))
  refine lv_aload_n hx hb dX18_boardAt_38 rfl (lv_at hl 0 rfl) ?_
  refine lv_iconst (v := 1) hx hb dX18_boardAt_39 (by decide) ?_
  have hPc := (hP.app hR).sub (ws' := [(mm, .inr (24, .int 0 :: ([.ref stu, .ref cla, .ref pic, .ref act, .int 5, .int 50, .ref nts, .ref isn, .int 1600, .ref boa, .ref mas, .ref pai, .ref sol, .int 0, .ref bal, .ref leg])))] ++ []) [0] rfl
  have hDc := (en_DD hD hDr hN0 hAb).sub (ws' := [(mm, .inr (24, .int 0 :: ([.ref stu, .ref cla, .ref pic, .ref act, .int 5, .int 50, .ref nts, .ref isn, .int 1600, .ref boa, .ref mas, .ref pai, .ref sol, .int 0, .ref bal, .ref leg])))] ++ []) [0] (by decide) rfl
  have hKc := hK.sub (tys' := []) [] rfl
  have hFc := va_free (wc := [(mm, .inr (24, .int 0 :: ([.ref stu, .ref cla, .ref pic, .ref act, .int 5, .int 50, .ref nts, .ref isn, .int 1600, .ref boa, .ref mas, .ref pai, .ref sol, .int 0, .ref bal, .ref leg])))]) hD hS hA [0] rfl
  refine va_calli (va_runV (As := [.int 1]) (rest := []) ⟨hx, hb, hml, hown, hts⟩ (c_X18_fails l dC dI b0 en H.size mm 0 1 ([.ref stu, .ref cla, .ref pic, .ref act, .int 5, .int 50, .ref nts, .ref isn, .int 1600, .ref boa, .ref mas, .ref pai, .ref sol, .int 0, .ref bal, .ref leg])) (cwV 1 hts gX18_boardAt_X18_fails rfl rfl rfl (by decide +kernel) ⟨Nat.le_of_ble_eq_true rfl, Nat.le_of_ble_eq_true rfl⟩) ⟨cP.blind, va_recv hK hP (ci := 24) (q0 := 0) rfl rfl, cP.use (en_z hb0 hS) (hE.on hAb hS) hPc hKc hDc trivial⟩ rfl rfl hl.1 rfl (lv_room (Nat.le_of_ble_eq_true rfl)) dX18_boardAt_40 ⟨Nat.le_of_ble_eq_true rfl, Nat.le_of_ble_eq_true rfl⟩) hS (fun q _ h => hFc q h) hFc (fun r_3 u t H1 locs ht hvm hw hB hz1 hk1 hS => ?_)
  obtain ⟨hP1, hK1, hD1, hF1⟩ := hB
  rw [ht] at hP1
  try rw [ht] at hF1
  have hK1 := va_K.moved hvm.symm hK1
  try dsimp only at hw
  obtain ⟨hP, hD⟩ := va_join (wr := []) (w1 := [(mm, .inr (24, [.int 1, .ref stu, .ref cla, .ref pic, .ref act, .int 5, .int 50, .ref nts, .ref isn, .int 1600, .ref boa, .ref mas, .ref pai, .ref sol, .int 0, .ref bal, .ref leg]))]) hP hD [0] [] rfl rfl (by decide) (by decide) hk1 hFc hP1 hD1
  generalize H1 = H at hP hS ⊢
  have hP : va_P (dC, dI) vwCl [(mm, .inr (24, [.int 1, .ref stu, .ref cla, .ref pic, .ref act, .int 5, .int 50, .ref nts, .ref isn, .int 1600, .ref boa, .ref mas, .ref pai, .ref sol, .int 0, .ref bal, .ref leg]))] H := hP
  have hD : va_D A [(mm, .inr (24, [.int 1, .ref stu, .ref cla, .ref pic, .ref act, .int 5, .int 50, .ref nts, .ref isn, .int 1600, .ref boa, .ref mas, .ref pai, .ref sol, .int 0, .ref bal, .ref leg]))] := hD
  have hR := en_R hR0 hN0 hS
  refine W.widen (k := 0) (n := 0) (Nat.le_of_ble_eq_true rfl) (Nat.le_of_ble_eq_true rfl) ?_
  subst r_3
  refine W.widen (k := 0) (n := 0) (Nat.le_of_ble_eq_true rfl) (Nat.le_of_ble_eq_true rfl) ?_
  exact W.iret (v := 0) hx hb hr (fun t ht hW => ⟨⟨0, ⟨1, [.ref stu, .ref cla, .ref pic, .ref act, .int 5, .int 50, .ref nts, .ref isn, .int 1600, .ref boa, .ref mas, .ref pai, .ref sol, .int 0, .ref bal, .ref leg]⟩, rfl, (z_c_isEmpty0_22), cB.mk ht hW (hP.sub [0] rfl) (hK.sub [] rfl) (hD.sub [0] (by decide) rfl) (trivial)⟩, hS.F ht⟩) hS.2.2 dX18_boardAt_43
theorem z_c_X18_likely_30 (a : Int32) (b : Int32) (c9 : Int32) (d : Int32) (r_1 : Int32) (a_0 : r_1 = if (0 ≤ a ∧ a ≤ 99) ∧ (0 ≤ b ∧ b ≤ 99) ∧ (0 ≤ c9 ∧ c9 ≤ 99) ∧ (0 ≤ d ∧ d ≤ 99) then 1 else 0) (a_1 : ¬ r_1 = 0) : (2 : Int32) = if (0 ≤ a ∧ a ≤ 99) ∧ (0 ≤ b ∧ b ≤ 99) ∧ (0 ≤ c9 ∧ c9 ≤ 99) ∧ (0 ≤ d ∧ d ≤ 99) then 2 else 1 := by grind
theorem z_c_X18_likely_31 (a : Int32) (b : Int32) (c9 : Int32) (d : Int32) (r_1 : Int32) (a_0 : r_1 = if (0 ≤ a ∧ a ≤ 99) ∧ (0 ≤ b ∧ b ≤ 99) ∧ (0 ≤ c9 ∧ c9 ≤ 99) ∧ (0 ≤ d ∧ d ≤ 99) then 1 else 0) (a_1 : r_1 = 0) : (1 : Int32) = if (0 ≤ a ∧ a ≤ 99) ∧ (0 ≤ b ∧ b ≤ 99) ∧ (0 ≤ c9 ∧ c9 ≤ 99) ∧ (0 ≤ d ∧ d ≤ 99) then 2 else 1 := by grind
set_option maxHeartbeats 4000000 in
set_option maxRecDepth 100000 in
theorem c_X18_likely (l : Launch) (dC : Nat → ClassId) (dI : Nat → Nat → Nat) (b0 : Nat) (en : EnT) (sz : Nat) (mm stu cla pic act nts isn boa mas pai sol bal leg : Nat) (a b c9 d : Int32) : Met l yX18_likely wsX18_likely ({ frames := 2, cells := 0, slots := 0, locals := 45 } : Room) (cP b0 en (dC, dI) [] [(mm, .inr (24, [.int 0, .ref stu, .ref cla, .ref pic, .ref act, .int 5, .int 50, .ref nts, .ref isn, .int 1600, .ref boa, .ref mas, .ref pai, .ref sol, .int 0, .ref bal, .ref leg]))] [(pai, .inr (5, [.int 0, .ref en.2.2.1, .int 0]))] sz (fun _ => True) [.ref mm, .int a, .int b, .int c9, .int d]) (va_Qi (fun (r : Int32) (u : Int32 × List Value) => u.1 = if (0 ≤ a ∧ a ≤ 99) ∧ (0 ≤ b ∧ b ≤ 99) ∧ (0 ≤ c9 ∧ c9 ≤ 99) ∧ (0 ≤ d ∧ d ≤ 99) then 2 else 1) (fun u t => cB (dC, dI) [] [(mm, .inr (24, .int u.1 :: u.2))] (va_A [(mm, .inr (24, [.int 0, .ref stu, .ref cla, .ref pic, .ref act, .int 5, .int 50, .ref nts, .ref isn, .int 1600, .ref boa, .ref mas, .ref pai, .ref sol, .int 0, .ref bal, .ref leg]))] sz) (fun _ => True) t) (va_A [(mm, .inr (24, [.int 0, .ref stu, .ref cla, .ref pic, .ref act, .int 5, .int 50, .ref nts, .ref isn, .int 1600, .ref boa, .ref mas, .ref pai, .ref sol, .int 0, .ref bal, .ref leg]))] sz)) 0 0 (va_A [(mm, .inr (24, [.int 0, .ref stu, .ref cla, .ref pic, .ref act, .int 5, .int 50, .ref nts, .ref isn, .int 1600, .ref boa, .ref mas, .ref pai, .ref sol, .int 0, .ref bal, .ref leg]))] sz) := by
  refine Met.ofW (cc := cX18_likely) (maxL := 5) (ret := (some .int)) (by decide) rfl ?_
  intro p e s m args below meth c s₁ B hml hv
  obtain ⟨rfl, hsz, hb0, hE, hPP, hK, hDD, hF0⟩ := hv
  have hx := B.exec
  have hb := B.bytes
  have hr := B.returns
  have hts := atoms_spec (ws := wsX18_likely) B.pre
  have hown : s.vm.findClass RX18 = some m.cls := findClass_of_methodNamed B.named
  have hlocks := B.notSynchronized
  subst hsz
  have hN0 := en_N hPP hDD rfl
  have hP : va_P (dC, dI) vwCl [(mm, .inr (24, [.int 0, .ref stu, .ref cla, .ref pic, .ref act, .int 5, .int 50, .ref nts, .ref isn, .int 1600, .ref boa, .ref mas, .ref pai, .ref sol, .int 0, .ref bal, .ref leg]))] s.heap := hPP.sub [0] rfl
  have hR0 : va_P (dC, dI) vwCl [(pai, .inr (5, [.int 0, .ref en.2.2.1, .int 0]))] s.heap := hPP.sub [1] rfl
  have hD0 : va_D (fun q => b0 ≤ q) [(mm, .inr (24, [.int 0, .ref stu, .ref cla, .ref pic, .ref act, .int 5, .int 50, .ref nts, .ref isn, .int 1600, .ref boa, .ref mas, .ref pai, .ref sol, .int 0, .ref bal, .ref leg]))] := hDD.sub [0] (by decide) rfl
  have hDr : va_D (fun q => b0 ≤ q) [(pai, .inr (5, [.int 0, .ref en.2.2.1, .int 0]))] := hDD.sub [1] (by decide) rfl
  have hAb := en_A (sz := s.heap.size) hD0 hb0
  have hD := hD0.self (sz := s.heap.size)
  generalize hAe : va_A [(mm, .inr (24, [.int 0, .ref stu, .ref cla, .ref pic, .ref act, .int 5, .int 50, .ref nts, .ref isn, .int 1600, .ref boa, .ref mas, .ref pai, .ref sol, .int 0, .ref bal, .ref leg]))] s.heap.size = A at hD hAb hN0 ⊢
  have hA : ∀ q : Nat, s.heap.size ≤ q → A q := fun q h => by rw [← hAe]; exact Or.inr h
  have hS : va_S A s.heap s.heap [] := va_S.rf
  have hR := hR0
  have hl := lv_entry [.ref mm, .int a, .int b, .int c9, .int d] (n := 5) (Nat.le_of_ble_eq_true rfl)
  rw [lg_entry_eq]
  generalize (lg_sl [.ref mm, .int a, .int b, .int c9, .int d] ++ List.replicate (5 - (lg_sl [.ref mm, .int a, .int b, .int c9, .int d]).length) Slot.unset).toArray = ls at hl ⊢
  have hl : lv_has ls 5 [(0, .ref mm), (1, .int a), (2, .int b), (3, .int c9), (4, .int d)] := hl
  refine lv_aload_n hx hb dX18_likely_0 rfl (lv_at hl 0 rfl) ?_
  refine lv_iload_n hx hb dX18_likely_1 rfl (lv_at hl 1 rfl) ?_
  refine lv_iload_n hx hb dX18_likely_2 rfl (lv_at hl 2 rfl) ?_
  refine lv_iload_n hx hb dX18_likely_3 rfl (lv_at hl 3 rfl) ?_
  refine lv_iload hx hb dX18_likely_4 (lv_at hl 4 rfl) ?_
  have hPc := (hP.app hR).sub (ws' := [] ++ []) [] rfl
  have hDc := (en_DD hD hDr hN0 hAb).sub (ws' := [] ++ []) [] (by decide) rfl
  have hKc := hK.sub (tys' := []) [] rfl
  have hFc := va_free (wc := []) hD hS hA [] rfl
  refine va_calli (va_runS (As := [.int a, .int b, .int c9, .int d]) (rest := [.ref mm]) ⟨hx, hb, hml, hown, hts⟩ (c_X18_areHabits l dC dI b0 en s.heap.size a b c9 d) (va_cwS 4 hts gX18_likely_X18_areHabits rfl rfl rfl (by decide +kernel) ⟨Nat.le_of_ble_eq_true rfl, Nat.le_of_ble_eq_true rfl⟩) ⟨cP.blind, cP.use (en_z hb0 hS) (hE.on hAb hS) hPc hKc hDc trivial⟩ rfl rfl hl.1 rfl (lv_room (Nat.le_of_ble_eq_true rfl)) dX18_likely_6 ⟨Nat.le_of_ble_eq_true rfl, Nat.le_of_ble_eq_true rfl⟩) hS (fun q _ h => hFc q h) hFc (fun r_1 u t H1 locs ht hvm hw hB hz1 hk1 hS => ?_)
  have hP1 : va_P (dC, dI) vwCl [] H1 := fun k q h => by simp at h
  have hD1 : va_D (va_A [] s.heap.size) [] := ⟨fun i j p q h => by simp at h, fun k q h => by simp at h⟩
  try dsimp only at hw
  obtain ⟨hP, hD⟩ := va_join (wr := [(mm, .inr (24, [.int 0, .ref stu, .ref cla, .ref pic, .ref act, .int 5, .int 50, .ref nts, .ref isn, .int 1600, .ref boa, .ref mas, .ref pai, .ref sol, .int 0, .ref bal, .ref leg]))]) (w1 := []) hP hD [] [0] rfl rfl (by decide) (by decide) hk1 hFc hP1 hD1
  generalize H1 = H at hP hS ⊢
  have hP : va_P (dC, dI) vwCl [(mm, .inr (24, [.int 0, .ref stu, .ref cla, .ref pic, .ref act, .int 5, .int 50, .ref nts, .ref isn, .int 1600, .ref boa, .ref mas, .ref pai, .ref sol, .int 0, .ref bal, .ref leg]))] H := hP
  have hD : va_D A [(mm, .inr (24, [.int 0, .ref stu, .ref cla, .ref pic, .ref act, .int 5, .int 50, .ref nts, .ref isn, .int 1600, .ref boa, .ref mas, .ref pai, .ref sol, .int 0, .ref bal, .ref leg]))] := hD
  have hR := en_R hR0 hN0 hS
  refine W.widen (k := 0) (n := 0) (Nat.le_of_ble_eq_true rfl) (Nat.le_of_ble_eq_true rfl) ?_
  have h_2 := hw
  refine lv_if_ne (tgt := 16) hx hb dX18_likely_9 (by decide) (fun c_3 => ?_) (fun c_3 => ?_)
  · skip
    refine lv_aload_n hx hb dX18_likely_16 rfl (lv_at hl 0 rfl) ?_
    refine va_get (D := (dC, dI)) (ci := 24) (v := .ref pai) (C := RX18) (T := TX18) (N := 17) hx hb hts (by decide +kernel) hown hK hP 0 rfl rfl 12 (by decide) (hts (.fieldLink RX18 55 "UnderpaintModel" "painters" "Ljava/util/List;") (by decide +kernel)) (fun _ h9 => h9) rfl dX18_likely_17 ?_
    have hPc := (hP.app hR).sub (ws' := [] ++ [(pai, .inr (5, [.int 0, .ref en.2.2.1, .int 0]))]) [1] rfl
    have hDc := (en_DD hD hDr hN0 hAb).sub (ws' := [] ++ [(pai, .inr (5, [.int 0, .ref en.2.2.1, .int 0]))]) [1] (by decide) rfl
    have hKc := hK.sub (tys' := []) [] rfl
    have hFc := va_free (wc := []) hD hS hA [] rfl
    refine va_callFi (va_runF (As := []) (rest := [.ref mm]) (hK.1 5 _ rfl).2 ⟨hx, hb, hml, hown, hts⟩ (c_isEmpty0 l dC dI b0 en H.size pai en.2.2.1 0) (va_cwF 0 hts gX18_likely_Jx4a65c_isEmpty_aae02_f107Jx4a65c rfl rfl rfl (hE.face ("java/util/ArrayList", ⟨"java/util/List", "isEmpty", "()Z"⟩, ⟨"java/util/ArrayList", "isEmpty", "()Z"⟩) (by decide +kernel)) (by decide +kernel) ⟨Nat.le_of_ble_eq_true rfl, Nat.le_of_ble_eq_true rfl⟩) ⟨cP.blind, va_recv hK hR (ci := 5) (q0 := 0) rfl rfl, cP.use (en_z hb0 hS) (hE.on hAb hS) hPc hKc hDc trivial⟩ rfl rfl hl.1 rfl (lv_room (Nat.le_of_ble_eq_true rfl)) dX18_likely_20 ⟨Nat.le_of_ble_eq_true rfl, Nat.le_of_ble_eq_true rfl⟩) hS (fun q _ h => hFc q h) hFc (fun r_4 u t H1 locs ht hvm hw hB hz1 hk1 hS => ?_)
    have hP1 : va_P (dC, dI) vwCl [] H1 := fun k q h => by simp at h
    have hD1 : va_D (va_A [] H.size) [] := ⟨fun i j p q h => by simp at h, fun k q h => by simp at h⟩
    try dsimp only at hw
    obtain ⟨hP, hD⟩ := va_join (wr := [(mm, .inr (24, [.int 0, .ref stu, .ref cla, .ref pic, .ref act, .int 5, .int 50, .ref nts, .ref isn, .int 1600, .ref boa, .ref mas, .ref pai, .ref sol, .int 0, .ref bal, .ref leg]))]) (w1 := []) hP hD [] [0] rfl rfl (by decide) (by decide) hk1 hFc hP1 hD1
    generalize H1 = H at hP hS ⊢
    have hP : va_P (dC, dI) vwCl [(mm, .inr (24, [.int 0, .ref stu, .ref cla, .ref pic, .ref act, .int 5, .int 50, .ref nts, .ref isn, .int 1600, .ref boa, .ref mas, .ref pai, .ref sol, .int 0, .ref bal, .ref leg]))] H := hP
    have hD : va_D A [(mm, .inr (24, [.int 0, .ref stu, .ref cla, .ref pic, .ref act, .int 5, .int 50, .ref nts, .ref isn, .int 1600, .ref boa, .ref mas, .ref pai, .ref sol, .int 0, .ref bal, .ref leg]))] := hD
    have hR := en_R hR0 hN0 hS
    refine W.widen (k := 0) (n := 0) (Nat.le_of_ble_eq_true rfl) (Nat.le_of_ble_eq_true rfl) ?_
    subst r_4
    refine lv_if_eq (tgt := 32) hx hb dX18_likely_25 (by decide) (fun c_5 => absurd c_5 (by decide)) (fun c_5 => ?_)
    refine lv_iconst (v := 2) hx hb dX18_likely_28 (by decide) ?_
    refine lv_goto (tgt := 33) hx hb dX18_likely_29 (by decide) ?_
    refine va_put (D := (dC, dI)) (ci := 24) (v := .int 2) (ty := .int) (C := RX18) (T := TX18) (N := 17) hx hb hts (by decide +kernel) tyX18 tyX18_ok nmX18 hown hK hP hD hS 0 rfl rfl 0 (by decide) (hts (.fieldLink RX18 67 "UnderpaintModel" "code" "I") (by decide +kernel)) (fun _ h9 => h9) rfl (by decide +kernel) rfl rfl (Nat.le_of_ble_eq_true rfl) dX18_likely_33 (fun H locs hP hD hS => ?_)
    have hP : va_P (dC, dI) vwCl [(mm, .inr (24, [.int 2, .ref stu, .ref cla, .ref pic, .ref act, .int 5, .int 50, .ref nts, .ref isn, .int 1600, .ref boa, .ref mas, .ref pai, .ref sol, .int 0, .ref bal, .ref leg]))] H := hP
    have hD : va_D A [(mm, .inr (24, [.int 2, .ref stu, .ref cla, .ref pic, .ref act, .int 5, .int 50, .ref nts, .ref isn, .int 1600, .ref boa, .ref mas, .ref pai, .ref sol, .int 0, .ref bal, .ref leg]))] := hD
    have hR := en_R hR0 hN0 hS
    refine lv_aload_n hx hb dX18_likely_36 rfl (lv_at hl 0 rfl) ?_
    refine va_get (D := (dC, dI)) (ci := 24) (v := .int 2) (C := RX18) (T := TX18) (N := 17) hx hb hts (by decide +kernel) hown hK hP 0 rfl rfl 0 (by decide) (hts (.fieldLink RX18 67 "UnderpaintModel" "code" "I") (by decide +kernel)) (fun _ h9 => h9) rfl dX18_likely_37 ?_
    refine lv_if_le (tgt := 47) hx hb dX18_likely_40 (by decide) (fun c_6 => absurd c_6 (by decide)) (fun c_6 => ?_)
    refine lv_iconst (v := 0) hx hb dX18_likely_43 (by decide) ?_
    refine lv_goto (tgt := 72) hx hb dX18_likely_44 (by decide) ?_
    refine W.widen (k := 0) (n := 0) (Nat.le_of_ble_eq_true rfl) (Nat.le_of_ble_eq_true rfl) ?_
    exact W.iret (v := 0) hx hb hr (fun t ht hW => ⟨⟨0, ⟨2, [.ref stu, .ref cla, .ref pic, .ref act, .int 5, .int 50, .ref nts, .ref isn, .int 1600, .ref boa, .ref mas, .ref pai, .ref sol, .int 0, .ref bal, .ref leg]⟩, rfl, (z_c_X18_likely_30 a b c9 d r_1 h_2 c_3), cB.mk ht hW (hP.sub [0] rfl) (hK.sub [] rfl) (hD.sub [0] (by decide) rfl) (trivial)⟩, hS.F ht⟩) hS.2.2 dX18_likely_72
  · skip
    refine lv_iconst (v := 1) hx hb dX18_likely_12 (by decide) ?_
    refine lv_goto (tgt := 33) hx hb dX18_likely_13 (by decide) ?_
    refine va_put (D := (dC, dI)) (ci := 24) (v := .int 1) (ty := .int) (C := RX18) (T := TX18) (N := 17) hx hb hts (by decide +kernel) tyX18 tyX18_ok nmX18 hown hK hP hD hS 0 rfl rfl 0 (by decide) (hts (.fieldLink RX18 67 "UnderpaintModel" "code" "I") (by decide +kernel)) (fun _ h9 => h9) rfl (by decide +kernel) rfl rfl (Nat.le_of_ble_eq_true rfl) dX18_likely_33 (fun H locs hP hD hS => ?_)
    have hP : va_P (dC, dI) vwCl [(mm, .inr (24, [.int 1, .ref stu, .ref cla, .ref pic, .ref act, .int 5, .int 50, .ref nts, .ref isn, .int 1600, .ref boa, .ref mas, .ref pai, .ref sol, .int 0, .ref bal, .ref leg]))] H := hP
    have hD : va_D A [(mm, .inr (24, [.int 1, .ref stu, .ref cla, .ref pic, .ref act, .int 5, .int 50, .ref nts, .ref isn, .int 1600, .ref boa, .ref mas, .ref pai, .ref sol, .int 0, .ref bal, .ref leg]))] := hD
    have hR := en_R hR0 hN0 hS
    refine lv_aload_n hx hb dX18_likely_36 rfl (lv_at hl 0 rfl) ?_
    refine va_get (D := (dC, dI)) (ci := 24) (v := .int 1) (C := RX18) (T := TX18) (N := 17) hx hb hts (by decide +kernel) hown hK hP 0 rfl rfl 0 (by decide) (hts (.fieldLink RX18 67 "UnderpaintModel" "code" "I") (by decide +kernel)) (fun _ h9 => h9) rfl dX18_likely_37 ?_
    refine lv_if_le (tgt := 47) hx hb dX18_likely_40 (by decide) (fun c_7 => absurd c_7 (by decide)) (fun c_7 => ?_)
    refine lv_iconst (v := 0) hx hb dX18_likely_43 (by decide) ?_
    refine lv_goto (tgt := 72) hx hb dX18_likely_44 (by decide) ?_
    refine W.widen (k := 0) (n := 0) (Nat.le_of_ble_eq_true rfl) (Nat.le_of_ble_eq_true rfl) ?_
    exact W.iret (v := 0) hx hb hr (fun t ht hW => ⟨⟨0, ⟨1, [.ref stu, .ref cla, .ref pic, .ref act, .int 5, .int 50, .ref nts, .ref isn, .int 1600, .ref boa, .ref mas, .ref pai, .ref sol, .int 0, .ref bal, .ref leg]⟩, rfl, (z_c_X18_likely_31 a b c9 d r_1 h_2 c_3), cB.mk ht hW (hP.sub [0] rfl) (hK.sub [] rfl) (hD.sub [0] (by decide) rfl) (trivial)⟩, hS.F ht⟩) hS.2.2 dX18_likely_72

set_option maxHeartbeats 4000000 in
set_option maxRecDepth 100000 in
theorem c_X18_isSure (l : Launch) (dC : Nat → ClassId) (dI : Nat → Nat → Nat) (b0 : Nat) (en : EnT) (sz : Nat) (mm stu cla pic act nts isn boa mas pai sol bal leg : Nat) (a b c9 d : Int32) : Met l yX18_isSure wsX18_isSure ({ frames := 2, cells := 0, slots := 0, locals := 45 } : Room) (cP b0 en (dC, dI) [] [(mm, .inr (24, [.int 0, .ref stu, .ref cla, .ref pic, .ref act, .int 5, .int 50, .ref nts, .ref isn, .int 1600, .ref boa, .ref mas, .ref pai, .ref sol, .int 0, .ref bal, .ref leg]))] [(pai, .inr (5, [.int 0, .ref en.2.2.1, .int 0]))] sz (fun _ => True) [.ref mm, .int a, .int b, .int c9, .int d]) (va_Qi (fun (r : Int32) (u : Int32 × List Value) => u.1 = if (0 ≤ a ∧ a ≤ 99) ∧ (0 ≤ b ∧ b ≤ 99) ∧ (0 ≤ c9 ∧ c9 ≤ 99) ∧ (0 ≤ d ∧ d ≤ 99) then 2 else 1) (fun u t => cB (dC, dI) [] [(mm, .inr (24, .int u.1 :: u.2))] (va_A [(mm, .inr (24, [.int 0, .ref stu, .ref cla, .ref pic, .ref act, .int 5, .int 50, .ref nts, .ref isn, .int 1600, .ref boa, .ref mas, .ref pai, .ref sol, .int 0, .ref bal, .ref leg]))] sz) (fun _ => True) t) (va_A [(mm, .inr (24, [.int 0, .ref stu, .ref cla, .ref pic, .ref act, .int 5, .int 50, .ref nts, .ref isn, .int 1600, .ref boa, .ref mas, .ref pai, .ref sol, .int 0, .ref bal, .ref leg]))] sz)) 0 0 (va_A [(mm, .inr (24, [.int 0, .ref stu, .ref cla, .ref pic, .ref act, .int 5, .int 50, .ref nts, .ref isn, .int 1600, .ref boa, .ref mas, .ref pai, .ref sol, .int 0, .ref bal, .ref leg]))] sz) := by
  refine Met.ofW (cc := cX18_isSure) (maxL := 8) (ret := (some .boolean)) (by decide) rfl ?_
  intro p e s m args below meth c s₁ B hml hv
  obtain ⟨rfl, hsz, hb0, hE, hPP, hK, hDD, hF0⟩ := hv
  have hx := B.exec
  have hb := B.bytes
  have hr := B.returns
  have hts := atoms_spec (ws := wsX18_isSure) B.pre
  have hown : s.vm.findClass RX18 = some m.cls := findClass_of_methodNamed B.named
  have hlocks := B.notSynchronized
  subst hsz
  have hN0 := en_N hPP hDD rfl
  have hP : va_P (dC, dI) vwCl [(mm, .inr (24, [.int 0, .ref stu, .ref cla, .ref pic, .ref act, .int 5, .int 50, .ref nts, .ref isn, .int 1600, .ref boa, .ref mas, .ref pai, .ref sol, .int 0, .ref bal, .ref leg]))] s.heap := hPP.sub [0] rfl
  have hR0 : va_P (dC, dI) vwCl [(pai, .inr (5, [.int 0, .ref en.2.2.1, .int 0]))] s.heap := hPP.sub [1] rfl
  have hD0 : va_D (fun q => b0 ≤ q) [(mm, .inr (24, [.int 0, .ref stu, .ref cla, .ref pic, .ref act, .int 5, .int 50, .ref nts, .ref isn, .int 1600, .ref boa, .ref mas, .ref pai, .ref sol, .int 0, .ref bal, .ref leg]))] := hDD.sub [0] (by decide) rfl
  have hDr : va_D (fun q => b0 ≤ q) [(pai, .inr (5, [.int 0, .ref en.2.2.1, .int 0]))] := hDD.sub [1] (by decide) rfl
  have hAb := en_A (sz := s.heap.size) hD0 hb0
  have hD := hD0.self (sz := s.heap.size)
  generalize hAe : va_A [(mm, .inr (24, [.int 0, .ref stu, .ref cla, .ref pic, .ref act, .int 5, .int 50, .ref nts, .ref isn, .int 1600, .ref boa, .ref mas, .ref pai, .ref sol, .int 0, .ref bal, .ref leg]))] s.heap.size = A at hD hAb hN0 ⊢
  have hA : ∀ q : Nat, s.heap.size ≤ q → A q := fun q h => by rw [← hAe]; exact Or.inr h
  have hS : va_S A s.heap s.heap [] := va_S.rf
  have hR := hR0
  have hl := lv_entry [.ref mm, .int a, .int b, .int c9, .int d] (n := 8) (Nat.le_of_ble_eq_true rfl)
  rw [lg_entry_eq]
  generalize (lg_sl [.ref mm, .int a, .int b, .int c9, .int d] ++ List.replicate (8 - (lg_sl [.ref mm, .int a, .int b, .int c9, .int d]).length) Slot.unset).toArray = ls at hl ⊢
  have hl : lv_has ls 8 [(0, .ref mm), (1, .int a), (2, .int b), (3, .int c9), (4, .int d)] := hl
  refine lv_aload_n hx hb dX18_isSure_0 rfl (lv_at hl 0 rfl) ?_
  refine lv_iload_n hx hb dX18_isSure_1 rfl (lv_at hl 1 rfl) ?_
  refine lv_iload_n hx hb dX18_isSure_2 rfl (lv_at hl 2 rfl) ?_
  refine lv_iload_n hx hb dX18_isSure_3 rfl (lv_at hl 3 rfl) ?_
  refine lv_iload hx hb dX18_isSure_4 (lv_at hl 4 rfl) ?_
  have hPc := (hP.app hR).sub (ws' := [] ++ []) [] rfl
  have hDc := (en_DD hD hDr hN0 hAb).sub (ws' := [] ++ []) [] (by decide) rfl
  have hKc := hK.sub (tys' := []) [] rfl
  have hFc := va_free (wc := []) hD hS hA [] rfl
  refine va_calli (va_runS (As := [.int a, .int b, .int c9, .int d]) (rest := [.ref mm]) ⟨hx, hb, hml, hown, hts⟩ (c_X18_areHabits l dC dI b0 en s.heap.size a b c9 d) (va_cwS 4 hts gX18_isSure_X18_areHabits rfl rfl rfl (by decide +kernel) ⟨Nat.le_of_ble_eq_true rfl, Nat.le_of_ble_eq_true rfl⟩) ⟨cP.blind, cP.use (en_z hb0 hS) (hE.on hAb hS) hPc hKc hDc trivial⟩ rfl rfl hl.1 rfl (lv_room (Nat.le_of_ble_eq_true rfl)) dX18_isSure_6 ⟨Nat.le_of_ble_eq_true rfl, Nat.le_of_ble_eq_true rfl⟩) hS (fun q _ h => hFc q h) hFc (fun r_1 u t H1 locs ht hvm hw hB hz1 hk1 hS => ?_)
  have hP1 : va_P (dC, dI) vwCl [] H1 := fun k q h => by simp at h
  have hD1 : va_D (va_A [] s.heap.size) [] := ⟨fun i j p q h => by simp at h, fun k q h => by simp at h⟩
  try dsimp only at hw
  obtain ⟨hP, hD⟩ := va_join (wr := [(mm, .inr (24, [.int 0, .ref stu, .ref cla, .ref pic, .ref act, .int 5, .int 50, .ref nts, .ref isn, .int 1600, .ref boa, .ref mas, .ref pai, .ref sol, .int 0, .ref bal, .ref leg]))]) (w1 := []) hP hD [] [0] rfl rfl (by decide) (by decide) hk1 hFc hP1 hD1
  generalize H1 = H at hP hS ⊢
  have hP : va_P (dC, dI) vwCl [(mm, .inr (24, [.int 0, .ref stu, .ref cla, .ref pic, .ref act, .int 5, .int 50, .ref nts, .ref isn, .int 1600, .ref boa, .ref mas, .ref pai, .ref sol, .int 0, .ref bal, .ref leg]))] H := hP
  have hD : va_D A [(mm, .inr (24, [.int 0, .ref stu, .ref cla, .ref pic, .ref act, .int 5, .int 50, .ref nts, .ref isn, .int 1600, .ref boa, .ref mas, .ref pai, .ref sol, .int 0, .ref bal, .ref leg]))] := hD
  have hR := en_R hR0 hN0 hS
  refine W.widen (k := 0) (n := 0) (Nat.le_of_ble_eq_true rfl) (Nat.le_of_ble_eq_true rfl) ?_
  have h_2 := hw
  refine lv_if_ne (tgt := 16) hx hb dX18_isSure_9 (by decide) (fun c_3 => ?_) (fun c_3 => ?_)
  · skip
    refine lv_aload_n hx hb dX18_isSure_16 rfl (lv_at hl 0 rfl) ?_
    refine va_get (D := (dC, dI)) (ci := 24) (v := .ref pai) (C := RX18) (T := TX18) (N := 17) hx hb hts (by decide +kernel) hown hK hP 0 rfl rfl 12 (by decide) (hts (.fieldLink RX18 55 "UnderpaintModel" "painters" "Ljava/util/List;") (by decide +kernel)) (fun _ h9 => h9) rfl dX18_isSure_17 ?_
    have hPc := (hP.app hR).sub (ws' := [] ++ [(pai, .inr (5, [.int 0, .ref en.2.2.1, .int 0]))]) [1] rfl
    have hDc := (en_DD hD hDr hN0 hAb).sub (ws' := [] ++ [(pai, .inr (5, [.int 0, .ref en.2.2.1, .int 0]))]) [1] (by decide) rfl
    have hKc := hK.sub (tys' := []) [] rfl
    have hFc := va_free (wc := []) hD hS hA [] rfl
    refine va_callFi (va_runF (As := []) (rest := [.ref mm]) (hK.1 5 _ rfl).2 ⟨hx, hb, hml, hown, hts⟩ (c_isEmpty0 l dC dI b0 en H.size pai en.2.2.1 0) (va_cwF 0 hts gX18_isSure_Jx4a65c_isEmpty_aae02_f107Jx4a65c rfl rfl rfl (hE.face ("java/util/ArrayList", ⟨"java/util/List", "isEmpty", "()Z"⟩, ⟨"java/util/ArrayList", "isEmpty", "()Z"⟩) (by decide +kernel)) (by decide +kernel) ⟨Nat.le_of_ble_eq_true rfl, Nat.le_of_ble_eq_true rfl⟩) ⟨cP.blind, va_recv hK hR (ci := 5) (q0 := 0) rfl rfl, cP.use (en_z hb0 hS) (hE.on hAb hS) hPc hKc hDc trivial⟩ rfl rfl hl.1 rfl (lv_room (Nat.le_of_ble_eq_true rfl)) dX18_isSure_20 ⟨Nat.le_of_ble_eq_true rfl, Nat.le_of_ble_eq_true rfl⟩) hS (fun q _ h => hFc q h) hFc (fun r_4 u t H1 locs ht hvm hw hB hz1 hk1 hS => ?_)
    have hP1 : va_P (dC, dI) vwCl [] H1 := fun k q h => by simp at h
    have hD1 : va_D (va_A [] H.size) [] := ⟨fun i j p q h => by simp at h, fun k q h => by simp at h⟩
    try dsimp only at hw
    obtain ⟨hP, hD⟩ := va_join (wr := [(mm, .inr (24, [.int 0, .ref stu, .ref cla, .ref pic, .ref act, .int 5, .int 50, .ref nts, .ref isn, .int 1600, .ref boa, .ref mas, .ref pai, .ref sol, .int 0, .ref bal, .ref leg]))]) (w1 := []) hP hD [] [0] rfl rfl (by decide) (by decide) hk1 hFc hP1 hD1
    generalize H1 = H at hP hS ⊢
    have hP : va_P (dC, dI) vwCl [(mm, .inr (24, [.int 0, .ref stu, .ref cla, .ref pic, .ref act, .int 5, .int 50, .ref nts, .ref isn, .int 1600, .ref boa, .ref mas, .ref pai, .ref sol, .int 0, .ref bal, .ref leg]))] H := hP
    have hD : va_D A [(mm, .inr (24, [.int 0, .ref stu, .ref cla, .ref pic, .ref act, .int 5, .int 50, .ref nts, .ref isn, .int 1600, .ref boa, .ref mas, .ref pai, .ref sol, .int 0, .ref bal, .ref leg]))] := hD
    have hR := en_R hR0 hN0 hS
    refine W.widen (k := 0) (n := 0) (Nat.le_of_ble_eq_true rfl) (Nat.le_of_ble_eq_true rfl) ?_
    subst r_4
    refine lv_if_eq (tgt := 32) hx hb dX18_isSure_25 (by decide) (fun c_5 => absurd c_5 (by decide)) (fun c_5 => ?_)
    refine lv_iconst (v := 2) hx hb dX18_isSure_28 (by decide) ?_
    refine lv_goto (tgt := 33) hx hb dX18_isSure_29 (by decide) ?_
    refine va_put (D := (dC, dI)) (ci := 24) (v := .int 2) (ty := .int) (C := RX18) (T := TX18) (N := 17) hx hb hts (by decide +kernel) tyX18 tyX18_ok nmX18 hown hK hP hD hS 0 rfl rfl 0 (by decide) (hts (.fieldLink RX18 67 "UnderpaintModel" "code" "I") (by decide +kernel)) (fun _ h9 => h9) rfl (by decide +kernel) rfl rfl (Nat.le_of_ble_eq_true rfl) dX18_isSure_33 (fun H locs hP hD hS => ?_)
    have hP : va_P (dC, dI) vwCl [(mm, .inr (24, [.int 2, .ref stu, .ref cla, .ref pic, .ref act, .int 5, .int 50, .ref nts, .ref isn, .int 1600, .ref boa, .ref mas, .ref pai, .ref sol, .int 0, .ref bal, .ref leg]))] H := hP
    have hD : va_D A [(mm, .inr (24, [.int 2, .ref stu, .ref cla, .ref pic, .ref act, .int 5, .int 50, .ref nts, .ref isn, .int 1600, .ref boa, .ref mas, .ref pai, .ref sol, .int 0, .ref bal, .ref leg]))] := hD
    have hR := en_R hR0 hN0 hS
    refine lv_aload_n hx hb dX18_isSure_36 rfl (lv_at hl 0 rfl) ?_
    refine va_get (D := (dC, dI)) (ci := 24) (v := .int 2) (C := RX18) (T := TX18) (N := 17) hx hb hts (by decide +kernel) hown hK hP 0 rfl rfl 0 (by decide) (hts (.fieldLink RX18 67 "UnderpaintModel" "code" "I") (by decide +kernel)) (fun _ h9 => h9) rfl dX18_isSure_37 ?_
    refine lv_if_le (tgt := 45) hx hb dX18_isSure_40 (by decide) (fun c_6 => absurd c_6 (by decide)) (fun c_6 => ?_)
    refine lv_iconst (v := 0) hx hb dX18_isSure_43 (by decide) ?_
    refine W.widen (k := 0) (n := 0) (Nat.le_of_ble_eq_true rfl) (Nat.le_of_ble_eq_true rfl) ?_
    exact W.zret (v := 0) hx hb hr (by first | rfl | decide +kernel) (fun t ht hW => ⟨⟨0, ⟨2, [.ref stu, .ref cla, .ref pic, .ref act, .int 5, .int 50, .ref nts, .ref isn, .int 1600, .ref boa, .ref mas, .ref pai, .ref sol, .int 0, .ref bal, .ref leg]⟩, rfl, (z_c_X18_likely_30 a b c9 d r_1 h_2 c_3), cB.mk ht hW (hP.sub [0] rfl) (hK.sub [] rfl) (hD.sub [0] (by decide) rfl) (trivial)⟩, hS.F ht⟩) hS.2.2 dX18_isSure_44
  · skip
    refine lv_iconst (v := 1) hx hb dX18_isSure_12 (by decide) ?_
    refine lv_goto (tgt := 33) hx hb dX18_isSure_13 (by decide) ?_
    refine va_put (D := (dC, dI)) (ci := 24) (v := .int 1) (ty := .int) (C := RX18) (T := TX18) (N := 17) hx hb hts (by decide +kernel) tyX18 tyX18_ok nmX18 hown hK hP hD hS 0 rfl rfl 0 (by decide) (hts (.fieldLink RX18 67 "UnderpaintModel" "code" "I") (by decide +kernel)) (fun _ h9 => h9) rfl (by decide +kernel) rfl rfl (Nat.le_of_ble_eq_true rfl) dX18_isSure_33 (fun H locs hP hD hS => ?_)
    have hP : va_P (dC, dI) vwCl [(mm, .inr (24, [.int 1, .ref stu, .ref cla, .ref pic, .ref act, .int 5, .int 50, .ref nts, .ref isn, .int 1600, .ref boa, .ref mas, .ref pai, .ref sol, .int 0, .ref bal, .ref leg]))] H := hP
    have hD : va_D A [(mm, .inr (24, [.int 1, .ref stu, .ref cla, .ref pic, .ref act, .int 5, .int 50, .ref nts, .ref isn, .int 1600, .ref boa, .ref mas, .ref pai, .ref sol, .int 0, .ref bal, .ref leg]))] := hD
    have hR := en_R hR0 hN0 hS
    refine lv_aload_n hx hb dX18_isSure_36 rfl (lv_at hl 0 rfl) ?_
    refine va_get (D := (dC, dI)) (ci := 24) (v := .int 1) (C := RX18) (T := TX18) (N := 17) hx hb hts (by decide +kernel) hown hK hP 0 rfl rfl 0 (by decide) (hts (.fieldLink RX18 67 "UnderpaintModel" "code" "I") (by decide +kernel)) (fun _ h9 => h9) rfl dX18_isSure_37 ?_
    refine lv_if_le (tgt := 45) hx hb dX18_isSure_40 (by decide) (fun c_7 => absurd c_7 (by decide)) (fun c_7 => ?_)
    refine lv_iconst (v := 0) hx hb dX18_isSure_43 (by decide) ?_
    refine W.widen (k := 0) (n := 0) (Nat.le_of_ble_eq_true rfl) (Nat.le_of_ble_eq_true rfl) ?_
    exact W.zret (v := 0) hx hb hr (by first | rfl | decide +kernel) (fun t ht hW => ⟨⟨0, ⟨1, [.ref stu, .ref cla, .ref pic, .ref act, .int 5, .int 50, .ref nts, .ref isn, .int 1600, .ref boa, .ref mas, .ref pai, .ref sol, .int 0, .ref bal, .ref leg]⟩, rfl, (z_c_X18_likely_31 a b c9 d r_1 h_2 c_3), cB.mk ht hW (hP.sub [0] rfl) (hK.sub [] rfl) (hD.sub [0] (by decide) rfl) (trivial)⟩, hS.F ht⟩) hS.2.2 dX18_isSure_44
theorem z_c_X18_layers_32 (x : Int32) (y : Int32) (r_1 : Int32) (a_0 : r_1 = if (0 ≤ x ∧ x < 8) ∧ (0 ≤ y ∧ y < 6) then 1 else 0) (a_1 : r_1 = 0) : ((1 : Int32) = 0 ∧ (0 : Int32) = 0 ∧ (0 ≤ x ∧ x < 8) ∧ (0 ≤ y ∧ y < 6)) ∨ ((1 : Int32) = 1 ∧ ¬ ((0 ≤ x ∧ x < 8) ∧ (0 ≤ y ∧ y < 6))) := by grind
theorem z_c_X18_layers_33 (x : Int32) (y : Int32) (r_1 : Int32) (x_5 : Int32) (x_6 : Int32) (a_0 : r_1 = if (0 ≤ x ∧ x < 8) ∧ (0 ≤ y ∧ y < 6) then 1 else 0) (a_1 : ¬ r_1 = 0) (a_2 : x_5 = 8 * y) (a_3 : x_6 = x_5 + x) : 0 ≤ x_6 := by grind
theorem z_c_X18_layers_34 (x : Int32) (y : Int32) (r_1 : Int32) (x_5 : Int32) (x_6 : Int32) (a_0 : r_1 = if (0 ≤ x ∧ x < 8) ∧ (0 ≤ y ∧ y < 6) then 1 else 0) (a_1 : ¬ r_1 = 0) (a_2 : x_5 = 8 * y) (a_3 : x_6 = x_5 + x) : x_6 < 48 := by grind
theorem z_c_X18_layers_35 (x : Int32) (y : Int32) (r_1 : Int32) (x_5 : Int32) (x_6 : Int32) (a_0 : r_1 = if (0 ≤ x ∧ x < 8) ∧ (0 ≤ y ∧ y < 6) then 1 else 0) (a_1 : ¬ r_1 = 0) (a_2 : x_5 = 8 * y) (a_3 : x_6 = x_5 + x) : ((0 : Int32) = 0 ∧ (0 : Int32) = 0 ∧ (0 ≤ x ∧ x < 8) ∧ (0 ≤ y ∧ y < 6)) ∨ ((0 : Int32) = 1 ∧ ¬ ((0 ≤ x ∧ x < 8) ∧ (0 ≤ y ∧ y < 6))) := by grind
set_option maxHeartbeats 4000000 in
set_option maxRecDepth 100000 in
theorem c_X18_layers (l : Launch) (dC : Nat → ClassId) (dI : Nat → Nat → Nat) (b0 : Nat) (en : EnT) (sz : Nat) (mm stu cla pic act nts isn boa mas pai sol bal leg : Nat) (ap scr : Nat) (g : Nat → Option Nat) (kP : ClassId) (N : Nat → Prop) (x y : Int32) (hNb : ∀ a, N a → b0 ≤ a ∧ a < sz) (hNw : ∀ a, N a → a ∉ List.map Prod.fst ([(mm, .inr (24, [.int 0, .ref stu, .ref cla, .ref pic, .ref act, .int 5, .int 50, .ref nts, .ref isn, .int 1600, .ref boa, .ref mas, .ref pai, .ref sol, .int 0, .ref bal, .ref leg]))] : va_W)) (hNr : ∀ a, N a → a ∉ List.map Prod.fst ([(pic, .inr (20, [.ref ap, .ref scr, .int 1600, .int 0, .int 0, .ref mm])), (ap, .inl (kP, 48, .inr (.inr (.inr (.inr g)))))] : va_W)) : Met l yX18_layers wsX18_layers ({ frames := 2, cells := 0, slots := 0, locals := 43 } : Room) (cP b0 en (dC, dI) [(kP, .object "UnderpaintModel$Place")] [(mm, .inr (24, [.int 0, .ref stu, .ref cla, .ref pic, .ref act, .int 5, .int 50, .ref nts, .ref isn, .int 1600, .ref boa, .ref mas, .ref pai, .ref sol, .int 0, .ref bal, .ref leg]))] [(pic, .inr (20, [.ref ap, .ref scr, .int 1600, .int 0, .int 0, .ref mm])), (ap, .inl (kP, 48, .inr (.inr (.inr (.inr g)))))] sz (FamP (dC, dI) N en.2.2.1 g) [.ref mm, .int x, .int y]) (va_Qi (fun (r : Int32) (u : Int32 × List Value) => (u.1 = 0 ∧ r = 0 ∧ (0 ≤ x ∧ x < 8) ∧ (0 ≤ y ∧ y < 6)) ∨ (u.1 = 1 ∧ ¬ ((0 ≤ x ∧ x < 8) ∧ (0 ≤ y ∧ y < 6)))) (fun u t => cB (dC, dI) [] [(mm, .inr (24, .int u.1 :: u.2))] (va_A [(mm, .inr (24, [.int 0, .ref stu, .ref cla, .ref pic, .ref act, .int 5, .int 50, .ref nts, .ref isn, .int 1600, .ref boa, .ref mas, .ref pai, .ref sol, .int 0, .ref bal, .ref leg]))] sz) (fun _ => True) t) (va_A [(mm, .inr (24, [.int 0, .ref stu, .ref cla, .ref pic, .ref act, .int 5, .int 50, .ref nts, .ref isn, .int 1600, .ref boa, .ref mas, .ref pai, .ref sol, .int 0, .ref bal, .ref leg]))] sz)) 0 0 (va_A [(mm, .inr (24, [.int 0, .ref stu, .ref cla, .ref pic, .ref act, .int 5, .int 50, .ref nts, .ref isn, .int 1600, .ref boa, .ref mas, .ref pai, .ref sol, .int 0, .ref bal, .ref leg]))] sz) := by
  refine Met.ofW (cc := cX18_layers) (maxL := 3) (ret := (some .int)) (by decide) rfl ?_
  intro p e s m args below meth c s₁ B hml hv
  obtain ⟨rfl, hsz, hb0, hE, hPP, hK, hDD, hF0⟩ := hv
  have hx := B.exec
  have hb := B.bytes
  have hr := B.returns
  have hts := atoms_spec (ws := wsX18_layers) B.pre
  have hown : s.vm.findClass RX18 = some m.cls := findClass_of_methodNamed B.named
  have hlocks := B.notSynchronized
  subst hsz
  have hN0 := en_N hPP hDD rfl
  have hP : va_P (dC, dI) vwCl [(mm, .inr (24, [.int 0, .ref stu, .ref cla, .ref pic, .ref act, .int 5, .int 50, .ref nts, .ref isn, .int 1600, .ref boa, .ref mas, .ref pai, .ref sol, .int 0, .ref bal, .ref leg]))] s.heap := hPP.sub [0] rfl
  have hR0 : va_P (dC, dI) vwCl [(pic, .inr (20, [.ref ap, .ref scr, .int 1600, .int 0, .int 0, .ref mm])), (ap, .inl (kP, 48, .inr (.inr (.inr (.inr g)))))] s.heap := hPP.sub [1, 2] rfl
  have hD0 : va_D (fun q => b0 ≤ q) [(mm, .inr (24, [.int 0, .ref stu, .ref cla, .ref pic, .ref act, .int 5, .int 50, .ref nts, .ref isn, .int 1600, .ref boa, .ref mas, .ref pai, .ref sol, .int 0, .ref bal, .ref leg]))] := hDD.sub [0] (by decide) rfl
  have hDr : va_D (fun q => b0 ≤ q) [(pic, .inr (20, [.ref ap, .ref scr, .int 1600, .int 0, .int 0, .ref mm])), (ap, .inl (kP, 48, .inr (.inr (.inr (.inr g)))))] := hDD.sub [1, 2] (by decide) rfl
  have hAb := en_A (sz := s.heap.size) hD0 hb0
  have hD := hD0.self (sz := s.heap.size)
  generalize hAe : va_A [(mm, .inr (24, [.int 0, .ref stu, .ref cla, .ref pic, .ref act, .int 5, .int 50, .ref nts, .ref isn, .int 1600, .ref boa, .ref mas, .ref pai, .ref sol, .int 0, .ref bal, .ref leg]))] s.heap.size = A at hD hAb hN0 ⊢
  have hA : ∀ q : Nat, s.heap.size ≤ q → A q := fun q h => by rw [← hAe]; exact Or.inr h
  have hS : va_S A s.heap s.heap [] := va_S.rf
  have hR := hR0
  have hl := lv_entry [.ref mm, .int x, .int y] (n := 3) (Nat.le_of_ble_eq_true rfl)
  rw [lg_entry_eq]
  generalize (lg_sl [.ref mm, .int x, .int y] ++ List.replicate (3 - (lg_sl [.ref mm, .int x, .int y]).length) Slot.unset).toArray = ls at hl ⊢
  have hl : lv_has ls 3 [(0, .ref mm), (1, .int x), (2, .int y)] := hl
  have hR0b := hR0
  have hDrb := hDr
  have hN0b := hN0
  refine lv_aload_n hx hb dX18_layers_0 rfl (lv_at hl 0 rfl) ?_
  refine lv_iconst (v := 0) hx hb dX18_layers_1 (by decide) ?_
  refine va_put (D := (dC, dI)) (ci := 24) (v := .int 0) (ty := .int) (C := RX18) (T := TX18) (N := 17) hx hb hts (by decide +kernel) tyX18 tyX18_ok nmX18 hown hK hP hD hS 0 rfl rfl 0 (by decide) (hts (.fieldLink RX18 67 "UnderpaintModel" "code" "I") (by decide +kernel)) (fun _ h9 => h9) rfl (by decide +kernel) rfl rfl (Nat.le_of_ble_eq_true rfl) dX18_layers_2 (fun H locs hP hD hS => ?_)
  have hP : va_P (dC, dI) vwCl [(mm, .inr (24, [.int 0, .ref stu, .ref cla, .ref pic, .ref act, .int 5, .int 50, .ref nts, .ref isn, .int 1600, .ref boa, .ref mas, .ref pai, .ref sol, .int 0, .ref bal, .ref leg]))] H := hP
  have hD : va_D A [(mm, .inr (24, [.int 0, .ref stu, .ref cla, .ref pic, .ref act, .int 5, .int 50, .ref nts, .ref isn, .int 1600, .ref boa, .ref mas, .ref pai, .ref sol, .int 0, .ref bal, .ref leg]))] := hD
  have hR := en_R hR0 hN0 hS
  refine lv_iload_n hx hb dX18_layers_5 rfl (lv_at hl 1 rfl) ?_
  refine lv_iload_n hx hb dX18_layers_6 rfl (lv_at hl 2 rfl) ?_
  have hPc := (hP.app hR).sub (ws' := [] ++ []) [] rfl
  have hDc := (en_DD hD hDr hN0 hAb).sub (ws' := [] ++ []) [] (by decide) rfl
  have hKc := hK.sub (tys' := []) [] rfl
  have hFc := va_free (wc := []) hD hS hA [] rfl
  refine va_calli (va_runS (As := [.int x, .int y]) (rest := []) ⟨hx, hb, hml, hown, hts⟩ (c_X18_isPlace l dC dI b0 en H.size x y) (va_cwS 2 hts gX18_layers_X18_isPlace rfl rfl rfl (by decide +kernel) ⟨Nat.le_of_ble_eq_true rfl, Nat.le_of_ble_eq_true rfl⟩) ⟨cP.blind, cP.use (en_z hb0 hS) (hE.on hAb hS) hPc hKc hDc trivial⟩ rfl rfl hl.1 rfl (lv_room (Nat.le_of_ble_eq_true rfl)) dX18_layers_7 ⟨Nat.le_of_ble_eq_true rfl, Nat.le_of_ble_eq_true rfl⟩) hS (fun q _ h => hFc q h) hFc (fun r_1 u t H1 locs ht hvm hw hB hz1 hk1 hS => ?_)
  have hP1 : va_P (dC, dI) vwCl [] H1 := fun k q h => by simp at h
  have hD1 : va_D (va_A [] H.size) [] := ⟨fun i j p q h => by simp at h, fun k q h => by simp at h⟩
  try dsimp only at hw
  obtain ⟨hP, hD⟩ := va_join (wr := [(mm, .inr (24, [.int 0, .ref stu, .ref cla, .ref pic, .ref act, .int 5, .int 50, .ref nts, .ref isn, .int 1600, .ref boa, .ref mas, .ref pai, .ref sol, .int 0, .ref bal, .ref leg]))]) (w1 := []) hP hD [] [0] rfl rfl (by decide) (by decide) hk1 hFc hP1 hD1
  generalize H1 = H at hP hS ⊢
  have hP : va_P (dC, dI) vwCl [(mm, .inr (24, [.int 0, .ref stu, .ref cla, .ref pic, .ref act, .int 5, .int 50, .ref nts, .ref isn, .int 1600, .ref boa, .ref mas, .ref pai, .ref sol, .int 0, .ref bal, .ref leg]))] H := hP
  have hD : va_D A [(mm, .inr (24, [.int 0, .ref stu, .ref cla, .ref pic, .ref act, .int 5, .int 50, .ref nts, .ref isn, .int 1600, .ref boa, .ref mas, .ref pai, .ref sol, .int 0, .ref bal, .ref leg]))] := hD
  have hR := en_R hR0 hN0 hS
  refine W.widen (k := 0) (n := 0) (Nat.le_of_ble_eq_true rfl) (Nat.le_of_ble_eq_true rfl) ?_
  have h_2 := hw
  refine lv_if_eq (tgt := 38) hx hb dX18_layers_10 (by decide) (fun c_3 => ?_) (fun c_3 => ?_)
  · skip
    refine lv_aload_n hx hb dX18_layers_38 rfl (lv_at hl 0 rfl) ?_
    refine lv_iconst (v := 1) hx hb dX18_layers_39 (by decide) ?_
    have hPc := (hP.app hR).sub (ws' := [(mm, .inr (24, .int 0 :: ([.ref stu, .ref cla, .ref pic, .ref act, .int 5, .int 50, .ref nts, .ref isn, .int 1600, .ref boa, .ref mas, .ref pai, .ref sol, .int 0, .ref bal, .ref leg])))] ++ []) [0] rfl
    have hDc := (en_DD hD hDr hN0 hAb).sub (ws' := [(mm, .inr (24, .int 0 :: ([.ref stu, .ref cla, .ref pic, .ref act, .int 5, .int 50, .ref nts, .ref isn, .int 1600, .ref boa, .ref mas, .ref pai, .ref sol, .int 0, .ref bal, .ref leg])))] ++ []) [0] (by decide) rfl
    have hKc := hK.sub (tys' := []) [] rfl
    have hFc := va_free (wc := [(mm, .inr (24, .int 0 :: ([.ref stu, .ref cla, .ref pic, .ref act, .int 5, .int 50, .ref nts, .ref isn, .int 1600, .ref boa, .ref mas, .ref pai, .ref sol, .int 0, .ref bal, .ref leg])))]) hD hS hA [0] rfl
    refine va_calli (va_runV (As := [.int 1]) (rest := []) ⟨hx, hb, hml, hown, hts⟩ (c_X18_fails l dC dI b0 en H.size mm 0 1 ([.ref stu, .ref cla, .ref pic, .ref act, .int 5, .int 50, .ref nts, .ref isn, .int 1600, .ref boa, .ref mas, .ref pai, .ref sol, .int 0, .ref bal, .ref leg])) (cwV 1 hts gX18_layers_X18_fails rfl rfl rfl (by decide +kernel) ⟨Nat.le_of_ble_eq_true rfl, Nat.le_of_ble_eq_true rfl⟩) ⟨cP.blind, va_recv hK hP (ci := 24) (q0 := 0) rfl rfl, cP.use (en_z hb0 hS) (hE.on hAb hS) hPc hKc hDc trivial⟩ rfl rfl hl.1 rfl (lv_room (Nat.le_of_ble_eq_true rfl)) dX18_layers_40 ⟨Nat.le_of_ble_eq_true rfl, Nat.le_of_ble_eq_true rfl⟩) hS (fun q _ h => hFc q h) hFc (fun r_4 u t H1 locs ht hvm hw hB hz1 hk1 hS => ?_)
    obtain ⟨hP1, hK1, hD1, hF1⟩ := hB
    rw [ht] at hP1
    try rw [ht] at hF1
    have hK1 := va_K.moved hvm.symm hK1
    try dsimp only at hw
    obtain ⟨hP, hD⟩ := va_join (wr := []) (w1 := [(mm, .inr (24, [.int 1, .ref stu, .ref cla, .ref pic, .ref act, .int 5, .int 50, .ref nts, .ref isn, .int 1600, .ref boa, .ref mas, .ref pai, .ref sol, .int 0, .ref bal, .ref leg]))]) hP hD [0] [] rfl rfl (by decide) (by decide) hk1 hFc hP1 hD1
    generalize H1 = H at hP hS ⊢
    have hP : va_P (dC, dI) vwCl [(mm, .inr (24, [.int 1, .ref stu, .ref cla, .ref pic, .ref act, .int 5, .int 50, .ref nts, .ref isn, .int 1600, .ref boa, .ref mas, .ref pai, .ref sol, .int 0, .ref bal, .ref leg]))] H := hP
    have hD : va_D A [(mm, .inr (24, [.int 1, .ref stu, .ref cla, .ref pic, .ref act, .int 5, .int 50, .ref nts, .ref isn, .int 1600, .ref boa, .ref mas, .ref pai, .ref sol, .int 0, .ref bal, .ref leg]))] := hD
    have hR := en_R hR0 hN0 hS
    refine W.widen (k := 0) (n := 0) (Nat.le_of_ble_eq_true rfl) (Nat.le_of_ble_eq_true rfl) ?_
    subst r_4
    refine W.widen (k := 0) (n := 0) (Nat.le_of_ble_eq_true rfl) (Nat.le_of_ble_eq_true rfl) ?_
    exact W.iret (v := 0) hx hb hr (fun t ht hW => ⟨⟨0, ⟨1, [.ref stu, .ref cla, .ref pic, .ref act, .int 5, .int 50, .ref nts, .ref isn, .int 1600, .ref boa, .ref mas, .ref pai, .ref sol, .int 0, .ref bal, .ref leg]⟩, rfl, (z_c_X18_layers_32 x y r_1 h_2 c_3), cB.mk ht hW (hP.sub [0] rfl) (hK.sub [] rfl) (hD.sub [0] (by decide) rfl) (trivial)⟩, hS.F ht⟩) hS.2.2 dX18_layers_43
  · skip
    refine lv_aload_n hx hb dX18_layers_13 rfl (lv_at hl 0 rfl) ?_
    refine va_get (D := (dC, dI)) (ci := 24) (v := .ref pic) (C := RX18) (T := TX18) (N := 17) hx hb hts (by decide +kernel) hown hK hP 0 rfl rfl 3 (by decide) (hts (.fieldLink RX18 25 "UnderpaintModel" "picture" "LUnderpaintModel$Picture;") (by decide +kernel)) (fun _ h9 => h9) rfl dX18_layers_14 ?_
    refine va_getN (D := (dC, dI)) (ci := 20) (v := .ref ap) (C := RX14) (T := TX14) (N := 6) hx hb hts (by decide +kernel) hown hK hR 0 rfl rfl 0 (by decide) (va_Nw.use rfl (hE.nf ("UnderpaintModel", 137, "UnderpaintModel$Picture", "at", "[LUnderpaintModel$Place;", "UnderpaintModel") (by decide +kernel))) (fun _ h9 => h9) rfl dX18_layers_17 ?_
    refine lv_bipush (v := 8) hx hb dX18_layers_20 (by decide) ?_
    refine lv_iload_n hx hb dX18_layers_22 rfl (lv_at hl 2 rfl) ?_
    refine lv_imul hx hb dX18_layers_23 ?_
    refine lv_topi (fun x_5 ex_5 => ?_)
    refine lv_iload_n hx hb dX18_layers_24 rfl (lv_at hl 1 rfl) ?_
    refine lv_iadd hx hb dX18_layers_25 ?_
    refine lv_topi (fun x_6 ex_6 => ?_)
    obtain ⟨i_7, hi_i_7, hx_i_7⟩ := (ix48 (z_c_X18_layers_33 x y r_1 x_5 x_6 h_2 c_3 ex_5 ex_6) (z_c_X18_layers_34 x y r_1 x_5 x_6 h_2 c_3 ex_5 ex_6))
    refine va_aldq hx hb hK hR 1 0 rfl rfl (pl_in hi_i_7 hx_i_7) dX18_layers_26 ?_
    obtain ⟨ap_8, lp_8, hgp_8, hup_8, hvp_8, hnp_8, hmp_8, hdp_8⟩ := hF0 i_7 hi_i_7
    refine lv_topv (w := .ref ap_8) (by rw [pl_cl hi_i_7 hx_i_7, hgp_8]; rfl) ?_
    have hxp_8 : ¬ A ap_8 := by rw [← hAe]; exact vA1 (ws := [(mm, .inr (24, [.int 0, .ref stu, .ref cla, .ref pic, .ref act, .int 5, .int 50, .ref nts, .ref isn, .int 1600, .ref boa, .ref mas, .ref pai, .ref sol, .int 0, .ref bal, .ref leg]))]) hup_8.lt (hNw ap_8 hnp_8)
    have hyp_8 : ¬ A lp_8 := by rw [← hAe]; exact vA1 (ws := [(mm, .inr (24, [.int 0, .ref stu, .ref cla, .ref pic, .ref act, .int 5, .int 50, .ref nts, .ref isn, .int 1600, .ref boa, .ref mas, .ref pai, .ref sol, .int 0, .ref bal, .ref leg]))]) hvp_8.lt (hNw lp_8 hmp_8)
    have hfa := va1 (hup_8.kept (hS.2.1 _ hup_8.lt hxp_8))
    refine va_getN (D := (dC, dI)) (ci := 21) (v := .ref lp_8) (C := RX15) (T := TX15) (N := 3) hx hb hts (by decide +kernel) hown hK hfa 0 rfl rfl 1 (by decide) (va_Nw.use rfl (hE.nf ("UnderpaintModel", 141, "UnderpaintModel$Place", "layers", "Ljava/util/List;", "UnderpaintModel") (by decide +kernel))) (fun _ h9 => h9) rfl dX18_layers_27 ?_
    have hR0 : va_P (dC, dI) vwCl [(pic, .inr (20, [.ref ap, .ref scr, .int 1600, .int 0, .int 0, .ref mm])), (ap, .inl (kP, 48, .inr (.inr (.inr (.inr g))))), (lp_8, .inr (5, [.int 0, .ref en.2.2.1, .int 0]))] s.heap := (hR0b.app (va1 hvp_8))
    have hDr : va_D (fun q => b0 ≤ q) [(pic, .inr (20, [.ref ap, .ref scr, .int 1600, .int 0, .int 0, .ref mm])), (ap, .inl (kP, 48, .inr (.inr (.inr (.inr g))))), (lp_8, .inr (5, [.int 0, .ref en.2.2.1, .int 0]))] := (vD_push hDrb (hNb lp_8 hmp_8).1 (nR (hNr lp_8 hmp_8)))
    have hN0 : ∀ (k : Nat) (q : Nat × va_E), [(pic, .inr (20, [.ref ap, .ref scr, .int 1600, .int 0, .int 0, .ref mm])), (ap, .inl (kP, 48, .inr (.inr (.inr (.inr g))))), (lp_8, .inr (5, [.int 0, .ref en.2.2.1, .int 0]))][k]? = some q → ¬ A q.1 := (vN_push hN0b hyp_8)
    have hR : va_P (dC, dI) vwCl [(pic, .inr (20, [.ref ap, .ref scr, .int 1600, .int 0, .int 0, .ref mm])), (ap, .inl (kP, 48, .inr (.inr (.inr (.inr g))))), (lp_8, .inr (5, [.int 0, .ref en.2.2.1, .int 0]))] H := en_R hR0 hN0 hS
    have hPc := (hP.app hR).sub (ws' := [] ++ [(lp_8, .inr (5, [.int 0, .ref en.2.2.1, .int 0]))]) [3] rfl
    have hDc := (en_DD hD hDr hN0 hAb).sub (ws' := [] ++ [(lp_8, .inr (5, [.int 0, .ref en.2.2.1, .int 0]))]) [3] (by decide) rfl
    have hKc := hK.sub (tys' := []) [] rfl
    have hFc := va_free (wc := []) hD hS hA [] rfl
    refine va_callFi (va_runF (As := []) (rest := []) (hK.1 5 _ rfl).2 ⟨hx, hb, hml, hown, hts⟩ (c_Jx4a65c_size l dC dI b0 en H.size lp_8 en.2.2.1 0 0) (va_cwF 0 hts gX18_layers_Jx4a65c_size_8abf5_f74Jx4a65c rfl rfl rfl (hE.face ("java/util/ArrayList", ⟨"java/util/List", "size", "()I"⟩, ⟨"java/util/ArrayList", "size", "()I"⟩) (by decide +kernel)) (by decide +kernel) ⟨Nat.le_of_ble_eq_true rfl, Nat.le_of_ble_eq_true rfl⟩) ⟨cP.blind, va_recv hK hR (ci := 5) (q0 := 2) rfl rfl, cP.use (en_z hb0 hS) (hE.on hAb hS) hPc hKc hDc trivial⟩ rfl rfl hl.1 rfl (lv_room (Nat.le_of_ble_eq_true rfl)) dX18_layers_30 ⟨Nat.le_of_ble_eq_true rfl, Nat.le_of_ble_eq_true rfl⟩) hS (fun q _ h => hFc q h) hFc (fun r_9 u t H1 locs ht hvm hw hB hz1 hk1 hS => ?_)
    have hP1 : va_P (dC, dI) vwCl [] H1 := fun k q h => by simp at h
    have hD1 : va_D (va_A [] H.size) [] := ⟨fun i j p q h => by simp at h, fun k q h => by simp at h⟩
    try dsimp only at hw
    obtain ⟨hP, hD⟩ := va_join (wr := [(mm, .inr (24, [.int 0, .ref stu, .ref cla, .ref pic, .ref act, .int 5, .int 50, .ref nts, .ref isn, .int 1600, .ref boa, .ref mas, .ref pai, .ref sol, .int 0, .ref bal, .ref leg]))]) (w1 := []) hP hD [] [0] rfl rfl (by decide) (by decide) hk1 hFc hP1 hD1
    generalize H1 = H at hP hS ⊢
    have hP : va_P (dC, dI) vwCl [(mm, .inr (24, [.int 0, .ref stu, .ref cla, .ref pic, .ref act, .int 5, .int 50, .ref nts, .ref isn, .int 1600, .ref boa, .ref mas, .ref pai, .ref sol, .int 0, .ref bal, .ref leg]))] H := hP
    have hD : va_D A [(mm, .inr (24, [.int 0, .ref stu, .ref cla, .ref pic, .ref act, .int 5, .int 50, .ref nts, .ref isn, .int 1600, .ref boa, .ref mas, .ref pai, .ref sol, .int 0, .ref bal, .ref leg]))] := hD
    have hR := en_R hR0 hN0 hS
    refine W.widen (k := 0) (n := 0) (Nat.le_of_ble_eq_true rfl) (Nat.le_of_ble_eq_true rfl) ?_
    subst r_9
    refine lv_goto (tgt := 43) hx hb dX18_layers_35 (by decide) ?_
    refine W.widen (k := 0) (n := 0) (Nat.le_of_ble_eq_true rfl) (Nat.le_of_ble_eq_true rfl) ?_
    exact W.iret (v := 0) hx hb hr (fun t ht hW => ⟨⟨0, ⟨0, [.ref stu, .ref cla, .ref pic, .ref act, .int 5, .int 50, .ref nts, .ref isn, .int 1600, .ref boa, .ref mas, .ref pai, .ref sol, .int 0, .ref bal, .ref leg]⟩, rfl, (z_c_X18_layers_35 x y r_1 x_5 x_6 h_2 c_3 ex_5 ex_6), cB.mk ht hW (hP.sub [0] rfl) (hK.sub [] rfl) (hD.sub [0] (by decide) rfl) (trivial)⟩, hS.F ht⟩) hS.2.2 dX18_layers_43

set_option maxHeartbeats 4000000 in
set_option maxRecDepth 100000 in
theorem c_X18_tired (l : Launch) (dC : Nat → ClassId) (dI : Nat → Nat → Nat) (b0 : Nat) (en : EnT) (sz : Nat) (mm stu cla pic act nts isn boa mas pai sol bal leg : Nat) (ap scr : Nat) (g : Nat → Option Nat) (kP : ClassId) (N : Nat → Prop) (x y : Int32) (hNb : ∀ a, N a → b0 ≤ a ∧ a < sz) (hNw : ∀ a, N a → a ∉ List.map Prod.fst ([(mm, .inr (24, [.int 0, .ref stu, .ref cla, .ref pic, .ref act, .int 5, .int 50, .ref nts, .ref isn, .int 1600, .ref boa, .ref mas, .ref pai, .ref sol, .int 0, .ref bal, .ref leg]))] : va_W)) (hNr : ∀ a, N a → a ∉ List.map Prod.fst ([(pic, .inr (20, [.ref ap, .ref scr, .int 1600, .int 0, .int 0, .ref mm])), (ap, .inl (kP, 48, .inr (.inr (.inr (.inr g)))))] : va_W)) : Met l yX18_tired wsX18_tired ({ frames := 2, cells := 0, slots := 0, locals := 43 } : Room) (cP b0 en (dC, dI) [(kP, .object "UnderpaintModel$Place")] [(mm, .inr (24, [.int 0, .ref stu, .ref cla, .ref pic, .ref act, .int 5, .int 50, .ref nts, .ref isn, .int 1600, .ref boa, .ref mas, .ref pai, .ref sol, .int 0, .ref bal, .ref leg]))] [(pic, .inr (20, [.ref ap, .ref scr, .int 1600, .int 0, .int 0, .ref mm])), (ap, .inl (kP, 48, .inr (.inr (.inr (.inr g)))))] sz (FamP (dC, dI) N en.2.2.1 g) [.ref mm, .int x, .int y]) (va_Qi (fun (r : Int32) (u : Int32 × List Value) => (u.1 = 0 ∧ r = 0 ∧ (0 ≤ x ∧ x < 8) ∧ (0 ≤ y ∧ y < 6)) ∨ (u.1 = 1 ∧ ¬ ((0 ≤ x ∧ x < 8) ∧ (0 ≤ y ∧ y < 6)))) (fun u t => cB (dC, dI) [] [(mm, .inr (24, .int u.1 :: u.2))] (va_A [(mm, .inr (24, [.int 0, .ref stu, .ref cla, .ref pic, .ref act, .int 5, .int 50, .ref nts, .ref isn, .int 1600, .ref boa, .ref mas, .ref pai, .ref sol, .int 0, .ref bal, .ref leg]))] sz) (fun _ => True) t) (va_A [(mm, .inr (24, [.int 0, .ref stu, .ref cla, .ref pic, .ref act, .int 5, .int 50, .ref nts, .ref isn, .int 1600, .ref boa, .ref mas, .ref pai, .ref sol, .int 0, .ref bal, .ref leg]))] sz)) 0 0 (va_A [(mm, .inr (24, [.int 0, .ref stu, .ref cla, .ref pic, .ref act, .int 5, .int 50, .ref nts, .ref isn, .int 1600, .ref boa, .ref mas, .ref pai, .ref sol, .int 0, .ref bal, .ref leg]))] sz) := by
  refine Met.ofW (cc := cX18_tired) (maxL := 3) (ret := (some .int)) (by decide) rfl ?_
  intro p e s m args below meth c s₁ B hml hv
  obtain ⟨rfl, hsz, hb0, hE, hPP, hK, hDD, hF0⟩ := hv
  have hx := B.exec
  have hb := B.bytes
  have hr := B.returns
  have hts := atoms_spec (ws := wsX18_tired) B.pre
  have hown : s.vm.findClass RX18 = some m.cls := findClass_of_methodNamed B.named
  have hlocks := B.notSynchronized
  subst hsz
  have hN0 := en_N hPP hDD rfl
  have hP : va_P (dC, dI) vwCl [(mm, .inr (24, [.int 0, .ref stu, .ref cla, .ref pic, .ref act, .int 5, .int 50, .ref nts, .ref isn, .int 1600, .ref boa, .ref mas, .ref pai, .ref sol, .int 0, .ref bal, .ref leg]))] s.heap := hPP.sub [0] rfl
  have hR0 : va_P (dC, dI) vwCl [(pic, .inr (20, [.ref ap, .ref scr, .int 1600, .int 0, .int 0, .ref mm])), (ap, .inl (kP, 48, .inr (.inr (.inr (.inr g)))))] s.heap := hPP.sub [1, 2] rfl
  have hD0 : va_D (fun q => b0 ≤ q) [(mm, .inr (24, [.int 0, .ref stu, .ref cla, .ref pic, .ref act, .int 5, .int 50, .ref nts, .ref isn, .int 1600, .ref boa, .ref mas, .ref pai, .ref sol, .int 0, .ref bal, .ref leg]))] := hDD.sub [0] (by decide) rfl
  have hDr : va_D (fun q => b0 ≤ q) [(pic, .inr (20, [.ref ap, .ref scr, .int 1600, .int 0, .int 0, .ref mm])), (ap, .inl (kP, 48, .inr (.inr (.inr (.inr g)))))] := hDD.sub [1, 2] (by decide) rfl
  have hAb := en_A (sz := s.heap.size) hD0 hb0
  have hD := hD0.self (sz := s.heap.size)
  generalize hAe : va_A [(mm, .inr (24, [.int 0, .ref stu, .ref cla, .ref pic, .ref act, .int 5, .int 50, .ref nts, .ref isn, .int 1600, .ref boa, .ref mas, .ref pai, .ref sol, .int 0, .ref bal, .ref leg]))] s.heap.size = A at hD hAb hN0 ⊢
  have hA : ∀ q : Nat, s.heap.size ≤ q → A q := fun q h => by rw [← hAe]; exact Or.inr h
  have hS : va_S A s.heap s.heap [] := va_S.rf
  have hR := hR0
  have hl := lv_entry [.ref mm, .int x, .int y] (n := 3) (Nat.le_of_ble_eq_true rfl)
  rw [lg_entry_eq]
  generalize (lg_sl [.ref mm, .int x, .int y] ++ List.replicate (3 - (lg_sl [.ref mm, .int x, .int y]).length) Slot.unset).toArray = ls at hl ⊢
  have hl : lv_has ls 3 [(0, .ref mm), (1, .int x), (2, .int y)] := hl
  have hR0b := hR0
  have hDrb := hDr
  have hN0b := hN0
  refine lv_aload_n hx hb dX18_tired_0 rfl (lv_at hl 0 rfl) ?_
  refine lv_iconst (v := 0) hx hb dX18_tired_1 (by decide) ?_
  refine va_put (D := (dC, dI)) (ci := 24) (v := .int 0) (ty := .int) (C := RX18) (T := TX18) (N := 17) hx hb hts (by decide +kernel) tyX18 tyX18_ok nmX18 hown hK hP hD hS 0 rfl rfl 0 (by decide) (hts (.fieldLink RX18 67 "UnderpaintModel" "code" "I") (by decide +kernel)) (fun _ h9 => h9) rfl (by decide +kernel) rfl rfl (Nat.le_of_ble_eq_true rfl) dX18_tired_2 (fun H locs hP hD hS => ?_)
  have hP : va_P (dC, dI) vwCl [(mm, .inr (24, [.int 0, .ref stu, .ref cla, .ref pic, .ref act, .int 5, .int 50, .ref nts, .ref isn, .int 1600, .ref boa, .ref mas, .ref pai, .ref sol, .int 0, .ref bal, .ref leg]))] H := hP
  have hD : va_D A [(mm, .inr (24, [.int 0, .ref stu, .ref cla, .ref pic, .ref act, .int 5, .int 50, .ref nts, .ref isn, .int 1600, .ref boa, .ref mas, .ref pai, .ref sol, .int 0, .ref bal, .ref leg]))] := hD
  have hR := en_R hR0 hN0 hS
  refine lv_iload_n hx hb dX18_tired_5 rfl (lv_at hl 1 rfl) ?_
  refine lv_iload_n hx hb dX18_tired_6 rfl (lv_at hl 2 rfl) ?_
  have hPc := (hP.app hR).sub (ws' := [] ++ []) [] rfl
  have hDc := (en_DD hD hDr hN0 hAb).sub (ws' := [] ++ []) [] (by decide) rfl
  have hKc := hK.sub (tys' := []) [] rfl
  have hFc := va_free (wc := []) hD hS hA [] rfl
  refine va_calli (va_runS (As := [.int x, .int y]) (rest := []) ⟨hx, hb, hml, hown, hts⟩ (c_X18_isPlace l dC dI b0 en H.size x y) (va_cwS 2 hts gX18_tired_X18_isPlace rfl rfl rfl (by decide +kernel) ⟨Nat.le_of_ble_eq_true rfl, Nat.le_of_ble_eq_true rfl⟩) ⟨cP.blind, cP.use (en_z hb0 hS) (hE.on hAb hS) hPc hKc hDc trivial⟩ rfl rfl hl.1 rfl (lv_room (Nat.le_of_ble_eq_true rfl)) dX18_tired_7 ⟨Nat.le_of_ble_eq_true rfl, Nat.le_of_ble_eq_true rfl⟩) hS (fun q _ h => hFc q h) hFc (fun r_1 u t H1 locs ht hvm hw hB hz1 hk1 hS => ?_)
  have hP1 : va_P (dC, dI) vwCl [] H1 := fun k q h => by simp at h
  have hD1 : va_D (va_A [] H.size) [] := ⟨fun i j p q h => by simp at h, fun k q h => by simp at h⟩
  try dsimp only at hw
  obtain ⟨hP, hD⟩ := va_join (wr := [(mm, .inr (24, [.int 0, .ref stu, .ref cla, .ref pic, .ref act, .int 5, .int 50, .ref nts, .ref isn, .int 1600, .ref boa, .ref mas, .ref pai, .ref sol, .int 0, .ref bal, .ref leg]))]) (w1 := []) hP hD [] [0] rfl rfl (by decide) (by decide) hk1 hFc hP1 hD1
  generalize H1 = H at hP hS ⊢
  have hP : va_P (dC, dI) vwCl [(mm, .inr (24, [.int 0, .ref stu, .ref cla, .ref pic, .ref act, .int 5, .int 50, .ref nts, .ref isn, .int 1600, .ref boa, .ref mas, .ref pai, .ref sol, .int 0, .ref bal, .ref leg]))] H := hP
  have hD : va_D A [(mm, .inr (24, [.int 0, .ref stu, .ref cla, .ref pic, .ref act, .int 5, .int 50, .ref nts, .ref isn, .int 1600, .ref boa, .ref mas, .ref pai, .ref sol, .int 0, .ref bal, .ref leg]))] := hD
  have hR := en_R hR0 hN0 hS
  refine W.widen (k := 0) (n := 0) (Nat.le_of_ble_eq_true rfl) (Nat.le_of_ble_eq_true rfl) ?_
  have h_2 := hw
  refine lv_if_eq (tgt := 33) hx hb dX18_tired_10 (by decide) (fun c_3 => ?_) (fun c_3 => ?_)
  · skip
    refine lv_aload_n hx hb dX18_tired_33 rfl (lv_at hl 0 rfl) ?_
    refine lv_iconst (v := 1) hx hb dX18_tired_34 (by decide) ?_
    have hPc := (hP.app hR).sub (ws' := [(mm, .inr (24, .int 0 :: ([.ref stu, .ref cla, .ref pic, .ref act, .int 5, .int 50, .ref nts, .ref isn, .int 1600, .ref boa, .ref mas, .ref pai, .ref sol, .int 0, .ref bal, .ref leg])))] ++ []) [0] rfl
    have hDc := (en_DD hD hDr hN0 hAb).sub (ws' := [(mm, .inr (24, .int 0 :: ([.ref stu, .ref cla, .ref pic, .ref act, .int 5, .int 50, .ref nts, .ref isn, .int 1600, .ref boa, .ref mas, .ref pai, .ref sol, .int 0, .ref bal, .ref leg])))] ++ []) [0] (by decide) rfl
    have hKc := hK.sub (tys' := []) [] rfl
    have hFc := va_free (wc := [(mm, .inr (24, .int 0 :: ([.ref stu, .ref cla, .ref pic, .ref act, .int 5, .int 50, .ref nts, .ref isn, .int 1600, .ref boa, .ref mas, .ref pai, .ref sol, .int 0, .ref bal, .ref leg])))]) hD hS hA [0] rfl
    refine va_calli (va_runV (As := [.int 1]) (rest := []) ⟨hx, hb, hml, hown, hts⟩ (c_X18_fails l dC dI b0 en H.size mm 0 1 ([.ref stu, .ref cla, .ref pic, .ref act, .int 5, .int 50, .ref nts, .ref isn, .int 1600, .ref boa, .ref mas, .ref pai, .ref sol, .int 0, .ref bal, .ref leg])) (cwV 1 hts gX18_tired_X18_fails rfl rfl rfl (by decide +kernel) ⟨Nat.le_of_ble_eq_true rfl, Nat.le_of_ble_eq_true rfl⟩) ⟨cP.blind, va_recv hK hP (ci := 24) (q0 := 0) rfl rfl, cP.use (en_z hb0 hS) (hE.on hAb hS) hPc hKc hDc trivial⟩ rfl rfl hl.1 rfl (lv_room (Nat.le_of_ble_eq_true rfl)) dX18_tired_35 ⟨Nat.le_of_ble_eq_true rfl, Nat.le_of_ble_eq_true rfl⟩) hS (fun q _ h => hFc q h) hFc (fun r_4 u t H1 locs ht hvm hw hB hz1 hk1 hS => ?_)
    obtain ⟨hP1, hK1, hD1, hF1⟩ := hB
    rw [ht] at hP1
    try rw [ht] at hF1
    have hK1 := va_K.moved hvm.symm hK1
    try dsimp only at hw
    obtain ⟨hP, hD⟩ := va_join (wr := []) (w1 := [(mm, .inr (24, [.int 1, .ref stu, .ref cla, .ref pic, .ref act, .int 5, .int 50, .ref nts, .ref isn, .int 1600, .ref boa, .ref mas, .ref pai, .ref sol, .int 0, .ref bal, .ref leg]))]) hP hD [0] [] rfl rfl (by decide) (by decide) hk1 hFc hP1 hD1
    generalize H1 = H at hP hS ⊢
    have hP : va_P (dC, dI) vwCl [(mm, .inr (24, [.int 1, .ref stu, .ref cla, .ref pic, .ref act, .int 5, .int 50, .ref nts, .ref isn, .int 1600, .ref boa, .ref mas, .ref pai, .ref sol, .int 0, .ref bal, .ref leg]))] H := hP
    have hD : va_D A [(mm, .inr (24, [.int 1, .ref stu, .ref cla, .ref pic, .ref act, .int 5, .int 50, .ref nts, .ref isn, .int 1600, .ref boa, .ref mas, .ref pai, .ref sol, .int 0, .ref bal, .ref leg]))] := hD
    have hR := en_R hR0 hN0 hS
    refine W.widen (k := 0) (n := 0) (Nat.le_of_ble_eq_true rfl) (Nat.le_of_ble_eq_true rfl) ?_
    subst r_4
    refine W.widen (k := 0) (n := 0) (Nat.le_of_ble_eq_true rfl) (Nat.le_of_ble_eq_true rfl) ?_
    exact W.iret (v := 0) hx hb hr (fun t ht hW => ⟨⟨0, ⟨1, [.ref stu, .ref cla, .ref pic, .ref act, .int 5, .int 50, .ref nts, .ref isn, .int 1600, .ref boa, .ref mas, .ref pai, .ref sol, .int 0, .ref bal, .ref leg]⟩, rfl, (z_c_X18_layers_32 x y r_1 h_2 c_3), cB.mk ht hW (hP.sub [0] rfl) (hK.sub [] rfl) (hD.sub [0] (by decide) rfl) (trivial)⟩, hS.F ht⟩) hS.2.2 dX18_tired_38
  · skip
    refine lv_aload_n hx hb dX18_tired_13 rfl (lv_at hl 0 rfl) ?_
    refine va_get (D := (dC, dI)) (ci := 24) (v := .ref pic) (C := RX18) (T := TX18) (N := 17) hx hb hts (by decide +kernel) hown hK hP 0 rfl rfl 3 (by decide) (hts (.fieldLink RX18 25 "UnderpaintModel" "picture" "LUnderpaintModel$Picture;") (by decide +kernel)) (fun _ h9 => h9) rfl dX18_tired_14 ?_
    refine va_getN (D := (dC, dI)) (ci := 20) (v := .ref ap) (C := RX14) (T := TX14) (N := 6) hx hb hts (by decide +kernel) hown hK hR 0 rfl rfl 0 (by decide) (va_Nw.use rfl (hE.nf ("UnderpaintModel", 137, "UnderpaintModel$Picture", "at", "[LUnderpaintModel$Place;", "UnderpaintModel") (by decide +kernel))) (fun _ h9 => h9) rfl dX18_tired_17 ?_
    refine lv_bipush (v := 8) hx hb dX18_tired_20 (by decide) ?_
    refine lv_iload_n hx hb dX18_tired_22 rfl (lv_at hl 2 rfl) ?_
    refine lv_imul hx hb dX18_tired_23 ?_
    refine lv_topi (fun x_5 ex_5 => ?_)
    refine lv_iload_n hx hb dX18_tired_24 rfl (lv_at hl 1 rfl) ?_
    refine lv_iadd hx hb dX18_tired_25 ?_
    refine lv_topi (fun x_6 ex_6 => ?_)
    obtain ⟨i_7, hi_i_7, hx_i_7⟩ := (ix48 (z_c_X18_layers_33 x y r_1 x_5 x_6 h_2 c_3 ex_5 ex_6) (z_c_X18_layers_34 x y r_1 x_5 x_6 h_2 c_3 ex_5 ex_6))
    refine va_aldq hx hb hK hR 1 0 rfl rfl (pl_in hi_i_7 hx_i_7) dX18_tired_26 ?_
    obtain ⟨ap_8, lp_8, hgp_8, hup_8, hvp_8, hnp_8, hmp_8, hdp_8⟩ := hF0 i_7 hi_i_7
    refine lv_topv (w := .ref ap_8) (by rw [pl_cl hi_i_7 hx_i_7, hgp_8]; rfl) ?_
    have hxp_8 : ¬ A ap_8 := by rw [← hAe]; exact vA1 (ws := [(mm, .inr (24, [.int 0, .ref stu, .ref cla, .ref pic, .ref act, .int 5, .int 50, .ref nts, .ref isn, .int 1600, .ref boa, .ref mas, .ref pai, .ref sol, .int 0, .ref bal, .ref leg]))]) hup_8.lt (hNw ap_8 hnp_8)
    have hyp_8 : ¬ A lp_8 := by rw [← hAe]; exact vA1 (ws := [(mm, .inr (24, [.int 0, .ref stu, .ref cla, .ref pic, .ref act, .int 5, .int 50, .ref nts, .ref isn, .int 1600, .ref boa, .ref mas, .ref pai, .ref sol, .int 0, .ref bal, .ref leg]))]) hvp_8.lt (hNw lp_8 hmp_8)
    have hfa := va1 (hup_8.kept (hS.2.1 _ hup_8.lt hxp_8))
    refine va_getN (D := (dC, dI)) (ci := 21) (v := .int 0) (C := RX15) (T := TX15) (N := 3) hx hb hts (by decide +kernel) hown hK hfa 0 rfl rfl 2 (by decide) (va_Nw.use rfl (hE.nf ("UnderpaintModel", 173, "UnderpaintModel$Place", "tired", "I", "UnderpaintModel") (by decide +kernel))) (fun _ h9 => h9) rfl dX18_tired_27 ?_
    refine lv_goto (tgt := 38) hx hb dX18_tired_30 (by decide) ?_
    refine W.widen (k := 0) (n := 0) (Nat.le_of_ble_eq_true rfl) (Nat.le_of_ble_eq_true rfl) ?_
    exact W.iret (v := 0) hx hb hr (fun t ht hW => ⟨⟨0, ⟨0, [.ref stu, .ref cla, .ref pic, .ref act, .int 5, .int 50, .ref nts, .ref isn, .int 1600, .ref boa, .ref mas, .ref pai, .ref sol, .int 0, .ref bal, .ref leg]⟩, rfl, (z_c_X18_layers_35 x y r_1 x_5 x_6 h_2 c_3 ex_5 ex_6), cB.mk ht hW (hP.sub [0] rfl) (hK.sub [] rfl) (hD.sub [0] (by decide) rfl) (trivial)⟩, hS.F ht⟩) hS.2.2 dX18_tired_38
