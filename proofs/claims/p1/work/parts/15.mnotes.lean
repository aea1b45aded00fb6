theorem dX18_note_0 : decode cX18_note 0 = .ok (.aload_n 0, 1) := by decide +kernel
theorem dX18_note_1 : decode cX18_note 1 = .ok (.iconst 0, 1) := by decide +kernel
theorem dX18_note_2 : decode cX18_note 2 = .ok (.putfield 67, 3) := by decide +kernel
theorem dX18_note_5 : decode cX18_note 5 = .ok (.iload_n 1, 1) := by decide +kernel
set_option maxRecDepth 20000 in
theorem ggX18_note_X18_isRay : GoodIn wsX18_note wsX18_isRay := goodIn_r _ [8, 9, 10, 11, 12, 13, 14, 15, 16, 17, 18, 19, 20, 21, 22, 23, 24, 25, 26, 27, 28, 29, 30, 31, 32, 33, 34, 35, 36, 37, 38, 39, 40, 41, 42, 43, 44, 45, 46, 47, 48, 49, 50, 51, 52, 53, 54, 55, 56, 57, 58, 59, 60, 61, 62, 63, 64, 65, 66, 67, 68, 69, 70, 71, 72, 73, 74, 75, 76, 77, 78, 79, 80, 81, 82, 83, 84, 85, 86, 87, 88, 89, 90, 91, 92, 93, 94, 95, 96, 97, 221, 222, 223, 224] (by decide +kernel) (by decide +kernel)
set_option maxRecDepth 20000 in
theorem gX18_note_X18_isRay : GoodIn wsX18_note (va_wsS RX18 179 yX18_isRay wsX18_isRay) := goodIn_app (goodIn_of _ (by decide +kernel)) ggX18_note_X18_isRay
theorem dX18_note_6 : decode cX18_note 6 = .ok (.invokestatic 179, 3) := by decide +kernel
theorem dX18_note_9 : decode cX18_note 9 = .ok (.ifCond .eq 11, 3) := by decide +kernel
theorem dX18_note_20 : decode cX18_note 20 = .ok (.aload_n 0, 1) := by decide +kernel
theorem dX18_note_21 : decode cX18_note 21 = .ok (.iconst 1, 1) := by decide +kernel
set_option maxRecDepth 20000 in
theorem ggX18_note_X18_fails : GoodIn wsX18_note wsX18_fails := goodIn_r _ [107, 1, 204, 205, 206, 207, 208, 209, 210, 211, 212, 213, 214, 215, 216, 217, 218, 219, 220] (by decide +kernel) (by decide +kernel)
set_option maxRecDepth 20000 in
theorem gX18_note_X18_fails : GoodIn wsX18_note (wsV RX18 88 RX18 yX18_fails wsX18_fails) := goodIn_app (goodIn_of _ (by decide +kernel)) ggX18_note_X18_fails
theorem dX18_note_22 : decode cX18_note 22 = .ok (.invokevirtual 88, 3) := by decide +kernel
theorem dX18_note_25 : decode cX18_note 25 = .ok (.ireturn, 1) := by decide +kernel
theorem dX18_note_12 : decode cX18_note 12 = .ok (.iload_n 2, 1) := by decide +kernel
theorem dX18_note_13 : decode cX18_note 13 = .ok (.iload_n 3, 1) := by decide +kernel
set_option maxRecDepth 20000 in
theorem ggX18_note_X18_isPlace : GoodIn wsX18_note wsX18_isPlace := goodIn_r _ [100, 101, 102, 7, 103] (by decide +kernel) (by decide +kernel)
set_option maxRecDepth 20000 in
theorem gX18_note_X18_isPlace : GoodIn wsX18_note (va_wsS RX18 124 yX18_isPlace wsX18_isPlace) := goodIn_app (goodIn_of _ (by decide +kernel)) ggX18_note_X18_isPlace
theorem dX18_note_14 : decode cX18_note 14 = .ok (.invokestatic 124, 3) := by decide +kernel
theorem dX18_note_17 : decode cX18_note 17 = .ok (.ifCond .ne 9, 3) := by decide +kernel
theorem dX18_note_26 : decode cX18_note 26 = .ok (.bipush 48, 2) := by decide +kernel
theorem dX18_note_28 : decode cX18_note 28 = .ok (.ldc 177, 2) := by decide +kernel
theorem dX18_note_30 : decode cX18_note 30 = .ok (.iload_n 1, 1) := by decide +kernel
set_option maxRecDepth 20000 in
theorem ggX18_note_J0_indexOf_0f7a4 : GoodIn wsX18_note wsJ0_indexOf_0f7a4 := goodIn_r _ [13, 14, 15, 16, 12, 17, 18, 19, 20, 21, 22, 23, 24, 25, 26, 27, 28, 29, 30, 31, 32, 33, 34, 35, 36, 37, 38, 39, 40, 41, 42, 43, 44, 45, 46, 47, 48, 49, 50, 51, 52, 53, 54, 55, 56, 57, 58, 59, 60, 61, 62, 63, 64, 65, 66, 67, 68, 69, 70, 71, 72, 73, 74, 75, 76, 77, 78, 79, 80, 81, 82, 83, 84, 85, 86, 87, 88, 89, 90, 91, 92, 93, 94, 95, 96, 97, 221, 222, 223, 224] (by decide +kernel) (by decide +kernel)
set_option maxRecDepth 20000 in
theorem gX18_note_J0_indexOf_0f7a4 : GoodIn wsX18_note (wsV RX18 82 RJ0 yJ0_indexOf_0f7a4 wsJ0_indexOf_0f7a4) := goodIn_app (goodIn_of _ (by decide +kernel)) ggX18_note_J0_indexOf_0f7a4
theorem dX18_note_31 : decode cX18_note 31 = .ok (.invokevirtual 82, 3) := by decide +kernel
theorem dX18_note_34 : decode cX18_note 34 = .ok (.imul, 1) := by decide +kernel
theorem dX18_note_35 : decode cX18_note 35 = .ok (.bipush 8, 2) := by decide +kernel
theorem dX18_note_37 : decode cX18_note 37 = .ok (.iload_n 3, 1) := by decide +kernel
theorem dX18_note_38 : decode cX18_note 38 = .ok (.imul, 1) := by decide +kernel
theorem dX18_note_39 : decode cX18_note 39 = .ok (.iadd, 1) := by decide +kernel
theorem dX18_note_40 : decode cX18_note 40 = .ok (.iload_n 2, 1) := by decide +kernel
theorem dX18_note_41 : decode cX18_note 41 = .ok (.iadd, 1) := by decide +kernel
theorem dX18_note_42 : decode cX18_note 42 = .ok (.istore 4, 2) := by decide +kernel
theorem dX18_note_44 : decode cX18_note 44 = .ok (.aload_n 0, 1) := by decide +kernel
theorem dX18_note_45 : decode cX18_note 45 = .ok (.getfield 39, 3) := by decide +kernel
theorem dX18_note_48 : decode cX18_note 48 = .ok (.iload 4, 2) := by decide +kernel
theorem dX18_note_50 : decode cX18_note 50 = .ok (.aload_n 0, 1) := by decide +kernel
theorem dX18_note_51 : decode cX18_note 51 = .ok (.getfield 25, 3) := by decide +kernel
theorem dX18_note_54 : decode cX18_note 54 = .ok (.iload_n 1, 1) := by decide +kernel
theorem dX18_note_55 : decode cX18_note 55 = .ok (.bipush 8, 2) := by decide +kernel
theorem dX18_note_57 : decode cX18_note 57 = .ok (.iload_n 3, 1) := by decide +kernel
theorem dX18_note_58 : decode cX18_note 58 = .ok (.imul, 1) := by decide +kernel
theorem dX18_note_59 : decode cX18_note 59 = .ok (.iload_n 2, 1) := by decide +kernel
theorem dX18_note_60 : decode cX18_note 60 = .ok (.iadd, 1) := by decide +kernel
set_option maxRecDepth 20000 in
theorem ggX18_note_X14_view : GoodIn wsX18_note wsX14_view := goodIn_r _ [112, 113, 114, 115, 116, 111, 117, 118, 119, 39, 120, 121, 38, 40, 122, 123, 124, 125, 102, 7, 103, 126, 127, 128, 129, 130, 131, 132, 133, 134, 135, 136, 137, 138, 139, 140, 141, 142, 143, 144, 145, 146, 147, 148, 149, 150, 151, 152, 153, 154, 155, 156, 157, 158, 159, 160, 161, 162, 163, 164, 165, 166, 167, 168, 169, 170, 42, 43, 171, 172, 173, 174, 175, 176, 177, 178, 179, 180, 181, 182, 183, 184, 185, 186, 187, 188, 189, 72, 190, 191, 192, 193, 194, 195, 196, 197, 198, 199, 200, 201, 202, 203, 225, 226, 227, 228, 229, 230, 231, 232, 233, 234, 235, 236, 237, 238, 239, 240, 241, 242, 243, 244, 245, 246, 247, 248, 249, 250, 251, 252, 253, 254, 255] (by decide +kernel) (by decide +kernel)
set_option maxRecDepth 20000 in
theorem gX18_note_X14_view : GoodIn wsX18_note (wsV RX18 183 RX14 yX14_view wsX14_view) := goodIn_app (goodIn_of _ (by decide +kernel)) ggX18_note_X14_view
theorem dX18_note_61 : decode cX18_note 61 = .ok (.invokevirtual 183, 3) := by decide +kernel
theorem dX18_note_64 : decode cX18_note 64 = .ok (.iastore, 1) := by decide +kernel
theorem dX18_note_65 : decode cX18_note 65 = .ok (.aload_n 0, 1) := by decide +kernel
theorem dX18_note_66 : decode cX18_note 66 = .ok (.getfield 43, 3) := by decide +kernel
theorem dX18_note_69 : decode cX18_note 69 = .ok (.iload 4, 2) := by decide +kernel
theorem dX18_note_71 : decode cX18_note 71 = .ok (.iconst 1, 1) := by decide +kernel
theorem dX18_note_72 : decode cX18_note 72 = .ok (.bastore, 1) := by decide +kernel
theorem dX18_note_73 : decode cX18_note 73 = .ok (.aload_n 0, 1) := by decide +kernel
theorem dX18_note_74 : decode cX18_note 74 = .ok (.getfield 39, 3) := by decide +kernel
theorem dX18_note_77 : decode cX18_note 77 = .ok (.iload 4, 2) := by decide +kernel
theorem dX18_note_79 : decode cX18_note 79 = .ok (.iaload, 1) := by decide +kernel
theorem dX18_note_80 : decode cX18_note 80 = .ok (.ireturn, 1) := by decide +kernel
theorem dX18_noted_0 : decode cX18_noted 0 = .ok (.aload_n 0, 1) := by decide +kernel
theorem dX18_noted_1 : decode cX18_noted 1 = .ok (.iconst 0, 1) := by decide +kernel
theorem dX18_noted_2 : decode cX18_noted 2 = .ok (.putfield 67, 3) := by decide +kernel
theorem dX18_noted_5 : decode cX18_noted 5 = .ok (.iload_n 1, 1) := by decide +kernel
set_option maxRecDepth 20000 in
theorem ggX18_noted_X18_isRay : GoodIn wsX18_noted wsX18_isRay := goodIn_r _ [7, 8, 9, 10, 11, 12, 13, 14, 15, 16, 17, 18, 19, 20, 21, 22, 23, 24, 25, 26, 27, 28, 29, 30, 31, 32, 33, 34, 35, 36, 37, 38, 39, 40, 41, 42, 43, 44, 45, 46, 47, 48, 49, 50, 51, 52, 53, 54, 55, 56, 57, 58, 59, 60, 61, 62, 63, 64, 65, 66, 67, 68, 69, 70, 71, 72, 73, 74, 75, 76, 77, 78, 79, 80, 81, 82, 83, 84, 85, 86, 87, 88, 89, 90, 91, 92, 93, 94, 95, 96, 124, 125, 126, 127] (by decide +kernel) (by decide +kernel)
set_option maxRecDepth 20000 in
theorem gX18_noted_X18_isRay : GoodIn wsX18_noted (va_wsS RX18 179 yX18_isRay wsX18_isRay) := goodIn_app (goodIn_of _ (by decide +kernel)) ggX18_noted_X18_isRay
theorem dX18_noted_6 : decode cX18_noted 6 = .ok (.invokestatic 179, 3) := by decide +kernel
theorem dX18_noted_9 : decode cX18_noted 9 = .ok (.ifCond .eq 11, 3) := by decide +kernel
theorem dX18_noted_20 : decode cX18_noted 20 = .ok (.aload_n 0, 1) := by decide +kernel
theorem dX18_noted_21 : decode cX18_noted 21 = .ok (.iconst 1, 1) := by decide +kernel
set_option maxRecDepth 20000 in
theorem ggX18_noted_X18_fails : GoodIn wsX18_noted wsX18_fails := goodIn_r _ [106, 1, 107, 108, 109, 110, 111, 112, 113, 114, 115, 116, 117, 118, 119, 120, 121, 122, 123] (by decide +kernel) (by decide +kernel)
set_option maxRecDepth 20000 in
theorem gX18_noted_X18_fails : GoodIn wsX18_noted (wsV RX18 88 RX18 yX18_fails wsX18_fails) := goodIn_app (goodIn_of _ (by decide +kernel)) ggX18_noted_X18_fails
theorem dX18_noted_22 : decode cX18_noted 22 = .ok (.invokevirtual 88, 3) := by decide +kernel
theorem dX18_noted_25 : decode cX18_noted 25 = .ok (.ireturn, 1) := by decide +kernel
theorem dX18_noted_12 : decode cX18_noted 12 = .ok (.iload_n 2, 1) := by decide +kernel
theorem dX18_noted_13 : decode cX18_noted 13 = .ok (.iload_n 3, 1) := by decide +kernel
set_option maxRecDepth 20000 in
theorem ggX18_noted_X18_isPlace : GoodIn wsX18_noted wsX18_isPlace := goodIn_r _ [99, 100, 101, 6, 102] (by decide +kernel) (by decide +kernel)
set_option maxRecDepth 20000 in
theorem gX18_noted_X18_isPlace : GoodIn wsX18_noted (va_wsS RX18 124 yX18_isPlace wsX18_isPlace) := goodIn_app (goodIn_of _ (by decide +kernel)) ggX18_noted_X18_isPlace
theorem dX18_noted_14 : decode cX18_noted 14 = .ok (.invokestatic 124, 3) := by decide +kernel
theorem dX18_noted_17 : decode cX18_noted 17 = .ok (.ifCond .ne 9, 3) := by decide +kernel
theorem dX18_noted_26 : decode cX18_noted 26 = .ok (.bipush 48, 2) := by decide +kernel
theorem dX18_noted_28 : decode cX18_noted 28 = .ok (.ldc 177, 2) := by decide +kernel
theorem dX18_noted_30 : decode cX18_noted 30 = .ok (.iload_n 1, 1) := by decide +kernel
set_option maxRecDepth 20000 in
theorem ggX18_noted_J0_indexOf_0f7a4 : GoodIn wsX18_noted wsJ0_indexOf_0f7a4 := goodIn_r _ [12, 13, 14, 15, 11, 16, 17, 18, 19, 20, 21, 22, 23, 24, 25, 26, 27, 28, 29, 30, 31, 32, 33, 34, 35, 36, 37, 38, 39, 40, 41, 42, 43, 44, 45, 46, 47, 48, 49, 50, 51, 52, 53, 54, 55, 56, 57, 58, 59, 60, 61, 62, 63, 64, 65, 66, 67, 68, 69, 70, 71, 72, 73, 74, 75, 76, 77, 78, 79, 80, 81, 82, 83, 84, 85, 86, 87, 88, 89, 90, 91, 92, 93, 94, 95, 96, 124, 125, 126, 127] (by decide +kernel) (by decide +kernel)
set_option maxRecDepth 20000 in
theorem gX18_noted_J0_indexOf_0f7a4 : GoodIn wsX18_noted (wsV RX18 82 RJ0 yJ0_indexOf_0f7a4 wsJ0_indexOf_0f7a4) := goodIn_app (goodIn_of _ (by decide +kernel)) ggX18_noted_J0_indexOf_0f7a4
theorem dX18_noted_31 : decode cX18_noted 31 = .ok (.invokevirtual 82, 3) := by decide +kernel
theorem dX18_noted_34 : decode cX18_noted 34 = .ok (.imul, 1) := by decide +kernel
theorem dX18_noted_35 : decode cX18_noted 35 = .ok (.bipush 8, 2) := by decide +kernel
theorem dX18_noted_37 : decode cX18_noted 37 = .ok (.iload_n 3, 1) := by decide +kernel
theorem dX18_noted_38 : decode cX18_noted 38 = .ok (.imul, 1) := by decide +kernel
theorem dX18_noted_39 : decode cX18_noted 39 = .ok (.iadd, 1) := by decide +kernel
theorem dX18_noted_40 : decode cX18_noted 40 = .ok (.iload_n 2, 1) := by decide +kernel
theorem dX18_noted_41 : decode cX18_noted 41 = .ok (.iadd, 1) := by decide +kernel
theorem dX18_noted_42 : decode cX18_noted 42 = .ok (.istore 4, 2) := by decide +kernel
theorem dX18_noted_44 : decode cX18_noted 44 = .ok (.aload_n 0, 1) := by decide +kernel
theorem dX18_noted_45 : decode cX18_noted 45 = .ok (.getfield 43, 3) := by decide +kernel
theorem dX18_noted_48 : decode cX18_noted 48 = .ok (.iload 4, 2) := by decide +kernel
theorem dX18_noted_50 : decode cX18_noted 50 = .ok (.baload, 1) := by decide +kernel
theorem dX18_noted_51 : decode cX18_noted 51 = .ok (.ifCond .eq 13, 3) := by decide +kernel
theorem dX18_noted_64 : decode cX18_noted 64 = .ok (.aload_n 0, 1) := by decide +kernel
theorem dX18_noted_65 : decode cX18_noted 65 = .ok (.iconst 2, 1) := by decide +kernel
theorem dX18_noted_66 : decode cX18_noted 66 = .ok (.invokevirtual 88, 3) := by decide +kernel
theorem dX18_noted_69 : decode cX18_noted 69 = .ok (.ireturn, 1) := by decide +kernel
theorem dX18_isAlike_0 : decode cX18_isAlike 0 = .ok (.iconst 0, 1) := by decide +kernel
theorem dX18_isAlike_1 : decode cX18_isAlike 1 = .ok (.istore_n 3, 1) := by decide +kernel
theorem dX18_isAlike_2 : decode cX18_isAlike 2 = .ok (.iload_n 3, 1) := by decide +kernel
theorem dX18_isAlike_3 : decode cX18_isAlike 3 = .ok (.iconst 4, 1) := by decide +kernel
theorem dX18_isAlike_4 : decode cX18_isAlike 4 = .ok (.if_icmp .ge 63, 3) := by decide +kernel
theorem dX18_isAlike_67 : decode cX18_isAlike 67 = .ok (.iconst 1, 1) := by decide +kernel
theorem dX18_isAlike_68 : decode cX18_isAlike 68 = .ok (.ireturn, 1) := by decide +kernel
theorem dX18_isAlike_7 : decode cX18_isAlike 7 = .ok (.bipush 48, 2) := by decide +kernel
theorem dX18_isAlike_9 : decode cX18_isAlike 9 = .ok (.iload_n 3, 1) := by decide +kernel
theorem dX18_isAlike_10 : decode cX18_isAlike 10 = .ok (.imul, 1) := by decide +kernel
theorem dX18_isAlike_11 : decode cX18_isAlike 11 = .ok (.iload_n 2, 1) := by decide +kernel
theorem dX18_isAlike_12 : decode cX18_isAlike 12 = .ok (.iadd, 1) := by decide +kernel
theorem dX18_isAlike_13 : decode cX18_isAlike 13 = .ok (.istore 4, 2) := by decide +kernel
theorem dX18_isAlike_15 : decode cX18_isAlike 15 = .ok (.aload_n 0, 1) := by decide +kernel
theorem dX18_isAlike_16 : decode cX18_isAlike 16 = .ok (.getfield 43, 3) := by decide +kernel
theorem dX18_isAlike_19 : decode cX18_isAlike 19 = .ok (.iload 4, 2) := by decide +kernel
theorem dX18_isAlike_21 : decode cX18_isAlike 21 = .ok (.baload, 1) := by decide +kernel
theorem dX18_isAlike_22 : decode cX18_isAlike 22 = .ok (.ifCond .eq 39, 3) := by decide +kernel
theorem dX18_isAlike_61 : decode cX18_isAlike 61 = .ok (.iinc 3 1, 3) := by decide +kernel
theorem dX18_isAlike_64 : decode cX18_isAlike 64 = .ok (.goto (-62), 3) := by decide +kernel
theorem dX18_isPossible_0 : decode cX18_isPossible 0 = .ok (.iload_n 1, 1) := by decide +kernel
theorem dX18_isPossible_1 : decode cX18_isPossible 1 = .ok (.iload_n 2, 1) := by decide +kernel
set_option maxRecDepth 20000 in
theorem ggX18_isPossible_X18_isPlace : GoodIn wsX18_isPossible wsX18_isPlace := goodIn_r _ [6, 7, 8, 5, 9] (by decide +kernel) (by decide +kernel)
set_option maxRecDepth 20000 in
theorem gX18_isPossible_X18_isPlace : GoodIn wsX18_isPossible (va_wsS RX18 124 yX18_isPlace wsX18_isPlace) := goodIn_app (goodIn_of _ (by decide +kernel)) ggX18_isPossible_X18_isPlace
theorem dX18_isPossible_2 : decode cX18_isPossible 2 = .ok (.invokestatic 124, 3) := by decide +kernel
theorem dX18_isPossible_5 : decode cX18_isPossible 5 = .ok (.ifCond .ne 9, 3) := by decide +kernel
theorem dX18_isPossible_14 : decode cX18_isPossible 14 = .ok (.aload_n 0, 1) := by decide +kernel
theorem dX18_isPossible_15 : decode cX18_isPossible 15 = .ok (.iconst 0, 1) := by decide +kernel
theorem dX18_isPossible_16 : decode cX18_isPossible 16 = .ok (.putfield 67, 3) := by decide +kernel
theorem dX18_isPossible_19 : decode cX18_isPossible 19 = .ok (.aload_n 0, 1) := by decide +kernel
theorem dX18_isPossible_20 : decode cX18_isPossible 20 = .ok (.aload_n 0, 1) := by decide +kernel
theorem dX18_isPossible_21 : decode cX18_isPossible 21 = .ok (.getfield 25, 3) := by decide +kernel
theorem dX18_isPossible_24 : decode cX18_isPossible 24 = .ok (.getfield 137, 3) := by decide +kernel
theorem dX18_isPossible_27 : decode cX18_isPossible 27 = .ok (.bipush 8, 2) := by decide +kernel
theorem dX18_isPossible_29 : decode cX18_isPossible 29 = .ok (.iload_n 2, 1) := by decide +kernel
theorem dX18_isPossible_30 : decode cX18_isPossible 30 = .ok (.imul, 1) := by decide +kernel
theorem dX18_isPossible_31 : decode cX18_isPossible 31 = .ok (.iload_n 1, 1) := by decide +kernel
theorem dX18_isPossible_32 : decode cX18_isPossible 32 = .ok (.iadd, 1) := by decide +kernel
theorem dX18_isPossible_33 : decode cX18_isPossible 33 = .ok (.aaload, 1) := by decide +kernel
theorem dX18_isPossible_34 : decode cX18_isPossible 34 = .ok (.bipush 8, 2) := by decide +kernel
theorem dX18_isPossible_36 : decode cX18_isPossible 36 = .ok (.iload_n 2, 1) := by decide +kernel
theorem dX18_isPossible_37 : decode cX18_isPossible 37 = .ok (.imul, 1) := by decide +kernel
theorem dX18_isPossible_38 : decode cX18_isPossible 38 = .ok (.iload_n 1, 1) := by decide +kernel
theorem dX18_isPossible_39 : decode cX18_isPossible 39 = .ok (.iadd, 1) := by decide +kernel
set_option maxRecDepth 20000 in
theorem ggX18_isPossible_X18_isAlike : GoodIn wsX18_isPossible wsX18_isAlike := goodIn_ca (goodIn_r _ [17, 18, 19, 20, 21, 22, 23, 24, 25, 26, 27, 28, 29, 30, 31, 32, 33, 34, 35, 36, 37, 38, 39, 40, 41, 42, 43, 44, 45, 46, 47, 48, 49, 50, 51, 52, 53, 54, 55, 56, 57, 58, 59, 60, 61, 62, 63, 64, 65, 66, 67, 68, 69, 70, 71, 72, 73, 74, 75, 76, 77, 78, 79, 80, 81, 82, 83, 84, 85, 86, 87, 88, 89, 90, 91, 92, 93, 94, 95, 96, 97, 98, 99, 100, 101, 102, 103, 104, 105, 106, 107, 108, 109, 110, 111, 112, 113, 114, 115, 116, 117, 118, 119, 120, 121, 122, 123, 124, 125, 126, 127, 128, 129, 130, 131, 132, 133, 134, 135, 136, 137, 138, 139, 140, 141, 142, 143, 144, 145, 146, 147, 148, 149, 150, 151, 152, 153, 154, 155, 162, 163, 164, 165, 166, 167, 168, 169, 170, 171, 172, 173, 174, 175, 176, 177, 178, 179, 180, 181, 182, 183, 184, 185, 186, 187, 188, 189, 190] (by decide +kernel) (by decide +kernel)) (goodIn_sub (fun _ h => List.mem_cons_of_mem _ (List.mem_append_right _ h)) (by decide +kernel))
set_option maxRecDepth 20000 in
theorem gX18_isPossible_X18_isAlike : GoodIn wsX18_isPossible (wsV RX18 207 RX18 yX18_isAlike wsX18_isAlike) := goodIn_app (goodIn_of _ (by decide +kernel)) ggX18_isPossible_X18_isAlike
theorem dX18_isPossible_40 : decode cX18_isPossible 40 = .ok (.invokevirtual 207, 3) := by decide +kernel
theorem dX18_isPossible_43 : decode cX18_isPossible 43 = .ok (.ireturn, 1) := by decide +kernel
theorem dX18_isPossible_8 : decode cX18_isPossible 8 = .ok (.aload_n 0, 1) := by decide +kernel
theorem dX18_isPossible_9 : decode cX18_isPossible 9 = .ok (.iconst 1, 1) := by decide +kernel
set_option maxRecDepth 20000 in
theorem ggX18_isPossible_X18_failsBoolean : GoodIn wsX18_isPossible wsX18_failsBoolean := goodIn_r _ [13, 1, 139, 140, 141, 142, 143, 144, 145, 146, 147, 148, 149, 150, 151, 152, 153, 154, 155] (by decide +kernel) (by decide +kernel)
set_option maxRecDepth 20000 in
theorem gX18_isPossible_X18_failsBoolean : GoodIn wsX18_isPossible (wsV RX18 104 RX18 yX18_failsBoolean wsX18_failsBoolean) := goodIn_app (goodIn_of _ (by decide +kernel)) ggX18_isPossible_X18_failsBoolean
theorem dX18_isPossible_10 : decode cX18_isPossible 10 = .ok (.invokevirtual 104, 3) := by decide +kernel
theorem dX18_isPossible_13 : decode cX18_isPossible 13 = .ok (.ireturn, 1) := by decide +kernel
theorem dX18_possible_0 : decode cX18_possible 0 = .ok (.new 7, 3) := by decide +kernel
theorem dX18_possible_3 : decode cX18_possible 3 = .ok (.dup, 1) := by decide +kernel
set_option maxRecDepth 20000 in
theorem ggX18_possible_Jx4a65c_init_da8c8 : GoodIn wsX18_possible wsJx4a65c_init_da8c8 := goodIn_r _ [14, 15, 16, 17, 18, 19, 20, 21, 22, 23, 24, 25, 26, 27, 28, 232, 233, 234] (by decide +kernel) (by decide +kernel)
set_option maxRecDepth 20000 in
theorem gX18_possible_Jx4a65c_init_da8c8 : GoodIn wsX18_possible (wsJx4a65c_init_da8c8) := ggX18_possible_Jx4a65c_init_da8c8
theorem dX18_possible_4 : decode cX18_possible 4 = .ok (.invokespecial 9, 3) := by decide +kernel
theorem dX18_possible_7 : decode cX18_possible 7 = .ok (.astore_n 2, 1) := by decide +kernel
theorem dX18_possible_8 : decode cX18_possible 8 = .ok (.aload_n 0, 1) := by decide +kernel
theorem dX18_possible_9 : decode cX18_possible 9 = .ok (.getfield 10, 3) := by decide +kernel
set_option maxRecDepth 20000 in
theorem ggX18_possible_Jx4a65c_size_8abf5 : GoodIn wsX18_possible wsJx4a65c_size_8abf5 := goodIn_r _ [32, 33, 232, 233, 234] (by decide +kernel) (by decide +kernel)
set_option maxRecDepth 20000 in
theorem gX18_possible_Jx4a65c_size_8abf5_f74Jx4a65c : GoodIn wsX18_possible (va_wsF RX18 74 RJx4a65c ⟨"java/util/List", "size", "()I"⟩ yJx4a65c_size_8abf5 wsJx4a65c_size_8abf5) := goodIn_app (goodIn_of _ (by decide +kernel)) ggX18_possible_Jx4a65c_size_8abf5
theorem dX18_possible_12 : decode cX18_possible 12 = .ok (.invokeinterface 74 1, 5) := by decide +kernel
theorem dX18_possible_17 : decode cX18_possible 17 = .ok (.istore_n 3, 1) := by decide +kernel
theorem dX18_possible_18 : decode cX18_possible 18 = .ok (.iload_n 3, 1) := by decide +kernel
theorem dX18_possible_19 : decode cX18_possible 19 = .ok (.anewarray 152, 3) := by decide +kernel
theorem dX18_possible_22 : decode cX18_possible 22 = .ok (.astore 4, 2) := by decide +kernel
theorem dX18_possible_24 : decode cX18_possible 24 = .ok (.iconst 0, 1) := by decide +kernel
theorem dX18_possible_25 : decode cX18_possible 25 = .ok (.istore 5, 2) := by decide +kernel
theorem dX18_possible_27 : decode cX18_possible 27 = .ok (.iload 5, 2) := by decide +kernel
theorem dX18_possible_29 : decode cX18_possible 29 = .ok (.iload_n 3, 1) := by decide +kernel
theorem dX18_possible_30 : decode cX18_possible 30 = .ok (.if_icmp .ge 55, 3) := by decide +kernel
theorem dX18_possible_85 : decode cX18_possible 85 = .ok (.iconst 1, 1) := by decide +kernel
theorem dX18_possible_86 : decode cX18_possible 86 = .ok (.istore 5, 2) := by decide +kernel
theorem dX18_possible_88 : decode cX18_possible 88 = .ok (.iload 5, 2) := by decide +kernel
theorem dX18_possible_90 : decode cX18_possible 90 = .ok (.iconst 4, 1) := by decide +kernel
theorem dX18_possible_91 : decode cX18_possible 91 = .ok (.if_icmp .ge 261, 3) := by decide +kernel
theorem dX18_possible_94 : decode cX18_possible 94 = .ok (.iload 5, 2) := by decide +kernel
theorem dX18_possible_96 : decode cX18_possible 96 = .ok (.iconst 1, 1) := by decide +kernel
theorem dX18_possible_97 : decode cX18_possible 97 = .ok (.if_icmp .ne 7, 3) := by decide +kernel
theorem dX18_possible_100 : decode cX18_possible 100 = .ok (.iload_n 3, 1) := by decide +kernel
theorem dX18_possible_101 : decode cX18_possible 101 = .ok (.goto 20, 3) := by decide +kernel
theorem dX18_possible_121 : decode cX18_possible 121 = .ok (.istore 6, 2) := by decide +kernel
theorem dX18_possible_123 : decode cX18_possible 123 = .ok (.iconst 0, 1) := by decide +kernel
theorem dX18_possible_124 : decode cX18_possible 124 = .ok (.istore 7, 2) := by decide +kernel
theorem dX18_possible_126 : decode cX18_possible 126 = .ok (.iload 7, 2) := by decide +kernel
theorem dX18_possible_128 : decode cX18_possible 128 = .ok (.iload 6, 2) := by decide +kernel
theorem dX18_possible_130 : decode cX18_possible 130 = .ok (.if_icmp .ge 216, 3) := by decide +kernel
theorem dX18_possible_346 : decode cX18_possible 346 = .ok (.iinc 5 1, 3) := by decide +kernel
theorem dX18_possible_349 : decode cX18_possible 349 = .ok (.goto (-261), 3) := by decide +kernel
theorem dX18_possible_104 : decode cX18_possible 104 = .ok (.iload 5, 2) := by decide +kernel
theorem dX18_possible_106 : decode cX18_possible 106 = .ok (.iconst 2, 1) := by decide +kernel
theorem dX18_possible_107 : decode cX18_possible 107 = .ok (.if_icmp .ne 9, 3) := by decide +kernel
theorem dX18_possible_110 : decode cX18_possible 110 = .ok (.iload_n 3, 1) := by decide +kernel
theorem dX18_possible_111 : decode cX18_possible 111 = .ok (.iload_n 3, 1) := by decide +kernel
theorem dX18_possible_112 : decode cX18_possible 112 = .ok (.imul, 1) := by decide +kernel
theorem dX18_possible_113 : decode cX18_possible 113 = .ok (.goto 8, 3) := by decide +kernel
theorem dX18_possible_116 : decode cX18_possible 116 = .ok (.iload_n 3, 1) := by decide +kernel
theorem dX18_possible_117 : decode cX18_possible 117 = .ok (.iload_n 3, 1) := by decide +kernel
theorem dX18_possible_118 : decode cX18_possible 118 = .ok (.imul, 1) := by decide +kernel
theorem dX18_possible_119 : decode cX18_possible 119 = .ok (.iload_n 3, 1) := by decide +kernel
theorem dX18_possible_120 : decode cX18_possible 120 = .ok (.imul, 1) := by decide +kernel
theorem dX18_possible_352 : decode cX18_possible 352 = .ok (.aload_n 2, 1) := by decide +kernel
theorem dX18_possible_353 : decode cX18_possible 353 = .ok (.areturn, 1) := by decide +kernel
theorem dX18_guesses_0 : decode cX18_guesses 0 = .ok (.aload_n 0, 1) := by decide +kernel
theorem dX18_guesses_1 : decode cX18_guesses 1 = .ok (.iconst 0, 1) := by decide +kernel
theorem dX18_guesses_2 : decode cX18_guesses 2 = .ok (.putfield 67, 3) := by decide +kernel
theorem dX18_guesses_5 : decode cX18_guesses 5 = .ok (.iload_n 1, 1) := by decide +kernel
theorem dX18_guesses_6 : decode cX18_guesses 6 = .ok (.iload_n 2, 1) := by decide +kernel
set_option maxRecDepth 20000 in
theorem ggX18_guesses_X18_isPlace : GoodIn wsX18_guesses wsX18_isPlace := goodIn_r _ [5, 6, 7, 4, 8] (by decide +kernel) (by decide +kernel)
set_option maxRecDepth 20000 in
theorem gX18_guesses_X18_isPlace : GoodIn wsX18_guesses (va_wsS RX18 124 yX18_isPlace wsX18_isPlace) := goodIn_app (goodIn_of _ (by decide +kernel)) ggX18_guesses_X18_isPlace
theorem dX18_guesses_7 : decode cX18_guesses 7 = .ok (.invokestatic 124, 3) := by decide +kernel
theorem dX18_guesses_10 : decode cX18_guesses 10 = .ok (.ifCond .eq 21, 3) := by decide +kernel
theorem dX18_guesses_31 : decode cX18_guesses 31 = .ok (.aload_n 0, 1) := by decide +kernel
theorem dX18_guesses_32 : decode cX18_guesses 32 = .ok (.iconst 1, 1) := by decide +kernel
set_option maxRecDepth 20000 in
theorem ggX18_guesses_X18_fails : GoodIn wsX18_guesses wsX18_fails := goodIn_r _ [246, 1, 247, 248, 249, 250, 251, 252, 253, 254, 255, 256, 257, 258, 259, 260, 261, 262, 263] (by decide +kernel) (by decide +kernel)
set_option maxRecDepth 20000 in
theorem gX18_guesses_X18_fails : GoodIn wsX18_guesses (wsV RX18 88 RX18 yX18_fails wsX18_fails) := goodIn_app (goodIn_of _ (by decide +kernel)) ggX18_guesses_X18_fails
theorem dX18_guesses_33 : decode cX18_guesses 33 = .ok (.invokevirtual 88, 3) := by decide +kernel
theorem dX18_guesses_36 : decode cX18_guesses 36 = .ok (.ireturn, 1) := by decide +kernel
theorem dX18_guesses_13 : decode cX18_guesses 13 = .ok (.aload_n 0, 1) := by decide +kernel
theorem dX18_guesses_14 : decode cX18_guesses 14 = .ok (.bipush 8, 2) := by decide +kernel
theorem dX18_guesses_16 : decode cX18_guesses 16 = .ok (.iload_n 2, 1) := by decide +kernel
theorem dX18_guesses_17 : decode cX18_guesses 17 = .ok (.imul, 1) := by decide +kernel
theorem dX18_guesses_18 : decode cX18_guesses 18 = .ok (.iload_n 1, 1) := by decide +kernel
theorem dX18_guesses_19 : decode cX18_guesses 19 = .ok (.iadd, 1) := by decide +kernel
set_option maxRecDepth 20000 in
theorem ggX18_guesses_X18_possible : GoodIn wsX18_guesses wsX18_possible := goodIn_ca (goodIn_ca (goodIn_r _ [12, 13, 14, 15, 16, 17, 18, 19, 20, 21, 22, 23, 24, 25, 26, 27, 28, 29, 30, 31, 32, 33, 34, 35, 36, 37, 38, 39, 40, 41, 42, 43, 44, 45, 46, 47, 48, 49, 50, 51, 52, 53, 54, 55, 56, 57, 58, 59, 60, 61, 62, 63, 64, 65, 66, 67, 68, 69, 70, 71, 72, 73, 74, 75, 76, 77, 78, 79, 80, 81, 82, 83, 84, 85, 86, 87, 88, 89, 90, 91, 92, 93, 94, 95, 96, 97, 98, 99, 100, 101, 102, 103, 104, 105, 106, 107, 108, 109, 110, 111, 112, 113, 114, 115, 116, 117, 118, 119, 120, 121, 122, 123, 124, 125, 126, 127, 128, 129, 130, 131, 132, 4, 133, 134, 135, 136, 137, 138, 139, 140, 141, 142, 143, 144, 145, 146, 147, 148, 149, 150, 151, 152, 153, 154, 155, 156, 157, 158, 159, 160, 161, 162, 163, 164, 165, 166, 167, 168, 169, 170, 171, 172, 173, 174, 175, 176, 177, 178, 179, 180, 181, 182, 183, 184, 185, 186, 187, 188, 189, 190, 191, 192, 193, 194, 195, 196, 197, 198, 199, 200, 201, 202, 203, 204, 205, 206, 207, 208, 209, 210, 211, 212, 213, 214, 215, 216, 217, 218, 219, 220, 221, 222, 223, 224, 225, 226, 227, 228, 229, 230, 231, 232, 233, 234, 235, 236, 237, 238, 239, 240, 241, 242, 264, 265, 266, 247, 248, 249, 250, 251, 252, 253, 254, 255, 256, 257, 258, 259, 260, 261, 262, 263, 267, 268, 269, 270, 271, 272, 273, 274, 275, 276, 277, 278, 279, 280, 281, 282, 283, 284, 285, 286, 287, 288, 289, 290, 291, 292, 293] (by decide +kernel) (by decide +kernel)) (goodIn_sub (fun _ h => List.mem_cons_of_mem _ (List.mem_append_left _ (List.mem_append_right _ h))) (by decide +kernel))) (goodIn_sub (fun _ h => List.mem_cons_of_mem _ (List.mem_append_right _ h)) (by decide +kernel))
set_option maxRecDepth 20000 in
theorem gX18_guesses_X18_possible : GoodIn wsX18_guesses (wsV RX18 217 RX18 yX18_possible wsX18_possible) := goodIn_app (goodIn_of _ (by decide +kernel)) ggX18_guesses_X18_possible
theorem dX18_guesses_20 : decode cX18_guesses 20 = .ok (.invokevirtual 217, 3) := by decide +kernel
set_option maxRecDepth 20000 in
theorem ggX18_guesses_Jx4a65c_size_8abf5 : GoodIn wsX18_guesses wsJx4a65c_size_8abf5 := goodIn_r _ [44, 45, 264, 265, 266] (by decide +kernel) (by decide +kernel)
set_option maxRecDepth 20000 in
theorem gX18_guesses_Jx4a65c_size_8abf5_f74Jx4a65c : GoodIn wsX18_guesses (va_wsF RX18 74 RJx4a65c ⟨"java/util/List", "size", "()I"⟩ yJx4a65c_size_8abf5 wsJx4a65c_size_8abf5) := goodIn_app (goodIn_of _ (by decide +kernel)) ggX18_guesses_Jx4a65c_size_8abf5
theorem dX18_guesses_23 : decode cX18_guesses 23 = .ok (.invokeinterface 74 1, 5) := by decide +kernel
theorem dX18_guesses_28 : decode cX18_guesses 28 = .ok (.goto 8, 3) := by decide +kernel
theorem dX18_guessAt_0 : decode cX18_guessAt 0 = .ok (.aload_n 0, 1) := by decide +kernel
theorem dX18_guessAt_1 : decode cX18_guessAt 1 = .ok (.iconst 0, 1) := by decide +kernel
theorem dX18_guessAt_2 : decode cX18_guessAt 2 = .ok (.putfield 67, 3) := by decide +kernel
theorem dX18_guessAt_5 : decode cX18_guessAt 5 = .ok (.iload_n 1, 1) := by decide +kernel
theorem dX18_guessAt_6 : decode cX18_guessAt 6 = .ok (.iload_n 2, 1) := by decide +kernel
set_option maxRecDepth 20000 in
theorem ggX18_guessAt_X18_isPlace : GoodIn wsX18_guessAt wsX18_isPlace := goodIn_r _ [6, 7, 8, 5, 9] (by decide +kernel) (by decide +kernel)
set_option maxRecDepth 20000 in
theorem gX18_guessAt_X18_isPlace : GoodIn wsX18_guessAt (va_wsS RX18 124 yX18_isPlace wsX18_isPlace) := goodIn_app (goodIn_of _ (by decide +kernel)) ggX18_guessAt_X18_isPlace
theorem dX18_guessAt_7 : decode cX18_guessAt 7 = .ok (.invokestatic 124, 3) := by decide +kernel
theorem dX18_guessAt_10 : decode cX18_guessAt 10 = .ok (.ifCond .ne 9, 3) := by decide +kernel
theorem dX18_guessAt_19 : decode cX18_guessAt 19 = .ok (.aload_n 0, 1) := by decide +kernel
theorem dX18_guessAt_20 : decode cX18_guessAt 20 = .ok (.bipush 8, 2) := by decide +kernel
theorem dX18_guessAt_22 : decode cX18_guessAt 22 = .ok (.iload_n 2, 1) := by decide +kernel
theorem dX18_guessAt_23 : decode cX18_guessAt 23 = .ok (.imul, 1) := by decide +kernel
theorem dX18_guessAt_24 : decode cX18_guessAt 24 = .ok (.iload_n 1, 1) := by decide +kernel
theorem dX18_guessAt_25 : decode cX18_guessAt 25 = .ok (.iadd, 1) := by decide +kernel
set_option maxRecDepth 20000 in
theorem ggX18_guessAt_X18_possible : GoodIn wsX18_guessAt wsX18_possible := goodIn_ca (goodIn_ca (goodIn_r _ [17, 18, 19, 20, 21, 22, 23, 24, 25, 26, 27, 28, 29, 30, 31, 32, 33, 34, 35, 36, 37, 38, 39, 40, 41, 42, 43, 44, 45, 46, 47, 48, 49, 50, 51, 52, 53, 54, 55, 56, 57, 58, 59, 60, 61, 62, 63, 64, 65, 66, 67, 68, 69, 70, 71, 72, 73, 74, 75, 76, 77, 78, 79, 80, 81, 82, 83, 84, 85, 86, 87, 88, 89, 90, 91, 92, 93, 94, 95, 96, 97, 98, 99, 100, 101, 102, 103, 104, 105, 106, 107, 108, 109, 110, 111, 112, 113, 114, 115, 116, 117, 118, 119, 120, 121, 122, 123, 124, 125, 126, 127, 128, 129, 130, 131, 132, 133, 134, 135, 136, 137, 5, 138, 139, 140, 141, 142, 143, 144, 145, 146, 147, 148, 149, 150, 151, 152, 153, 154, 155, 156, 157, 158, 159, 160, 161, 162, 163, 164, 165, 166, 167, 168, 169, 170, 171, 172, 173, 174, 175, 176, 177, 178, 179, 180, 181, 182, 183, 184, 185, 186, 187, 188, 189, 190, 191, 192, 193, 194, 195, 196, 197, 198, 199, 200, 201, 202, 203, 204, 205, 206, 207, 208, 209, 210, 211, 212, 213, 214, 215, 216, 217, 218, 219, 220, 221, 222, 223, 224, 225, 226, 227, 228, 229, 230, 231, 232, 233, 234, 235, 236, 237, 238, 239, 240, 241, 242, 243, 244, 245, 246, 247, 269, 270, 271, 252, 253, 254, 255, 256, 257, 258, 259, 260, 261, 262, 263, 264, 265, 266, 267, 268, 272, 273, 274, 275, 276, 277, 278, 279, 280, 281, 282, 283, 284, 285, 286, 287, 288, 289, 290, 291, 292, 293, 294, 295, 296, 297, 298] (by decide +kernel) (by decide +kernel)) (goodIn_sub (fun _ h => List.mem_cons_of_mem _ (List.mem_append_left _ (List.mem_append_right _ h))) (by decide +kernel))) (goodIn_sub (fun _ h => List.mem_cons_of_mem _ (List.mem_append_right _ h)) (by decide +kernel))
set_option maxRecDepth 20000 in
theorem gX18_guessAt_X18_possible : GoodIn wsX18_guessAt (wsV RX18 217 RX18 yX18_possible wsX18_possible) := goodIn_app (goodIn_of _ (by decide +kernel)) ggX18_guessAt_X18_possible
theorem dX18_guessAt_26 : decode cX18_guessAt 26 = .ok (.invokevirtual 217, 3) := by decide +kernel
theorem dX18_guessAt_29 : decode cX18_guessAt 29 = .ok (.astore 5, 2) := by decide +kernel
theorem dX18_guessAt_31 : decode cX18_guessAt 31 = .ok (.iload_n 3, 1) := by decide +kernel
theorem dX18_guessAt_32 : decode cX18_guessAt 32 = .ok (.iconst 0, 1) := by decide +kernel
theorem dX18_guessAt_33 : decode cX18_guessAt 33 = .ok (.aload 5, 2) := by decide +kernel
set_option maxRecDepth 20000 in
theorem ggX18_guessAt_Jx4a65c_size_8abf5 : GoodIn wsX18_guessAt wsJx4a65c_size_8abf5 := goodIn_r _ [49, 50, 269, 270, 271] (by decide +kernel) (by decide +kernel)
set_option maxRecDepth 20000 in
theorem gX18_guessAt_Jx4a65c_size_8abf5_f74Jx4a65c : GoodIn wsX18_guessAt (va_wsF RX18 74 RJx4a65c ⟨"java/util/List", "size", "()I"⟩ yJx4a65c_size_8abf5 wsJx4a65c_size_8abf5) := goodIn_app (goodIn_of _ (by decide +kernel)) ggX18_guessAt_Jx4a65c_size_8abf5
theorem dX18_guessAt_35 : decode cX18_guessAt 35 = .ok (.invokeinterface 74 1, 5) := by decide +kernel
theorem dX18_guessAt_40 : decode cX18_guessAt 40 = .ok (.iconst 1, 1) := by decide +kernel
theorem dX18_guessAt_41 : decode cX18_guessAt 41 = .ok (.isub, 1) := by decide +kernel
set_option maxRecDepth 20000 in
theorem ggX18_guessAt_X18_in : GoodIn wsX18_guessAt wsX18_in := goodIn_r _ [9] (by decide +kernel) (by decide +kernel)
set_option maxRecDepth 20000 in
theorem gX18_guessAt_X18_in : GoodIn wsX18_guessAt (va_wsS RX18 70 yX18_in wsX18_in) := goodIn_app (goodIn_of _ (by decide +kernel)) ggX18_guessAt_X18_in
theorem dX18_guessAt_42 : decode cX18_guessAt 42 = .ok (.invokestatic 70, 3) := by decide +kernel
theorem dX18_guessAt_45 : decode cX18_guessAt 45 = .ok (.ifCond .eq 13, 3) := by decide +kernel
theorem dX18_guessAt_58 : decode cX18_guessAt 58 = .ok (.aload_n 0, 1) := by decide +kernel
theorem dX18_guessAt_59 : decode cX18_guessAt 59 = .ok (.iconst 2, 1) := by decide +kernel
set_option maxRecDepth 20000 in
theorem ggX18_guessAt_X18_fails : GoodIn wsX18_guessAt wsX18_fails := goodIn_r _ [13, 1, 252, 253, 254, 255, 256, 257, 258, 259, 260, 261, 262, 263, 264, 265, 266, 267, 268] (by decide +kernel) (by decide +kernel)
set_option maxRecDepth 20000 in
theorem gX18_guessAt_X18_fails : GoodIn wsX18_guessAt (wsV RX18 88 RX18 yX18_fails wsX18_fails) := goodIn_app (goodIn_of _ (by decide +kernel)) ggX18_guessAt_X18_fails
theorem dX18_guessAt_60 : decode cX18_guessAt 60 = .ok (.invokevirtual 88, 3) := by decide +kernel
theorem dX18_guessAt_63 : decode cX18_guessAt 63 = .ok (.ireturn, 1) := by decide +kernel
theorem dX18_guessAt_13 : decode cX18_guessAt 13 = .ok (.aload_n 0, 1) := by decide +kernel
theorem dX18_guessAt_14 : decode cX18_guessAt 14 = .ok (.iconst 1, 1) := by decide +kernel
theorem dX18_guessAt_15 : decode cX18_guessAt 15 = .ok (.invokevirtual 88, 3) := by decide +kernel
theorem dX18_guessAt_18 : decode cX18_guessAt 18 = .ok (.ireturn, 1) := by decide +kernel
theorem dX18_tooYoung_0 : decode cX18_tooYoung 0 = .ok (.aload_n 0, 1) := by decide +kernel
theorem dX18_tooYoung_1 : decode cX18_tooYoung 1 = .ok (.iconst 0, 1) := by decide +kernel
theorem dX18_tooYoung_2 : decode cX18_tooYoung 2 = .ok (.putfield 67, 3) := by decide +kernel
theorem dX18_tooYoung_5 : decode cX18_tooYoung 5 = .ok (.iload_n 1, 1) := by decide +kernel
theorem dX18_tooYoung_6 : decode cX18_tooYoung 6 = .ok (.iconst 0, 1) := by decide +kernel
theorem dX18_tooYoung_7 : decode cX18_tooYoung 7 = .ok (.sipush 9999, 3) := by decide +kernel
set_option maxRecDepth 20000 in
theorem ggX18_tooYoung_X18_in : GoodIn wsX18_tooYoung wsX18_in := goodIn_r _ [12] (by decide +kernel) (by decide +kernel)
set_option maxRecDepth 20000 in
theorem gX18_tooYoung_X18_in : GoodIn wsX18_tooYoung (va_wsS RX18 70 yX18_in wsX18_in) := goodIn_app (goodIn_of _ (by decide +kernel)) ggX18_tooYoung_X18_in
theorem dX18_tooYoung_10 : decode cX18_tooYoung 10 = .ok (.invokestatic 70, 3) := by decide +kernel
theorem dX18_tooYoung_13 : decode cX18_tooYoung 13 = .ok (.ifCond .ne 9, 3) := by decide +kernel
theorem dX18_tooYoung_22 : decode cX18_tooYoung 22 = .ok (.bipush 99, 2) := by decide +kernel
theorem dX18_tooYoung_24 : decode cX18_tooYoung 24 = .ok (.istore_n 2, 1) := by decide +kernel
theorem dX18_tooYoung_25 : decode cX18_tooYoung 25 = .ok (.aload_n 0, 1) := by decide +kernel
theorem dX18_tooYoung_26 : decode cX18_tooYoung 26 = .ok (.getfield 25, 3) := by decide +kernel
theorem dX18_tooYoung_29 : decode cX18_tooYoung 29 = .ok (.getfield 137, 3) := by decide +kernel
theorem dX18_tooYoung_32 : decode cX18_tooYoung 32 = .ok (.astore_n 3, 1) := by decide +kernel
theorem dX18_tooYoung_33 : decode cX18_tooYoung 33 = .ok (.aload_n 3, 1) := by decide +kernel
theorem dX18_tooYoung_34 : decode cX18_tooYoung 34 = .ok (.arraylength, 1) := by decide +kernel
theorem dX18_tooYoung_35 : decode cX18_tooYoung 35 = .ok (.istore 4, 2) := by decide +kernel
theorem dX18_tooYoung_37 : decode cX18_tooYoung 37 = .ok (.iconst 0, 1) := by decide +kernel
theorem dX18_tooYoung_38 : decode cX18_tooYoung 38 = .ok (.istore 5, 2) := by decide +kernel
theorem dX18_tooYoung_40 : decode cX18_tooYoung 40 = .ok (.iload 5, 2) := by decide +kernel
theorem dX18_tooYoung_42 : decode cX18_tooYoung 42 = .ok (.iload 4, 2) := by decide +kernel
theorem dX18_tooYoung_44 : decode cX18_tooYoung 44 = .ok (.if_icmp .ge 93, 3) := by decide +kernel
theorem dX18_tooYoung_137 : decode cX18_tooYoung 137 = .ok (.iload_n 2, 1) := by decide +kernel
theorem dX18_tooYoung_138 : decode cX18_tooYoung 138 = .ok (.bipush 99, 2) := by decide +kernel
theorem dX18_tooYoung_140 : decode cX18_tooYoung 140 = .ok (.if_icmp .ne 11, 3) := by decide +kernel
theorem dX18_tooYoung_143 : decode cX18_tooYoung 143 = .ok (.aload_n 0, 1) := by decide +kernel
theorem dX18_tooYoung_144 : decode cX18_tooYoung 144 = .ok (.iconst 2, 1) := by decide +kernel
set_option maxRecDepth 20000 in
theorem ggX18_tooYoung_X18_fails : GoodIn wsX18_tooYoung wsX18_fails := goodIn_r _ [16, 1, 50, 51, 52, 53, 54, 55, 56, 57, 58, 59, 60, 61, 62, 63, 64, 65, 66] (by decide +kernel) (by decide +kernel)
set_option maxRecDepth 20000 in
theorem gX18_tooYoung_X18_fails : GoodIn wsX18_tooYoung (wsV RX18 88 RX18 yX18_fails wsX18_fails) := goodIn_app (goodIn_of _ (by decide +kernel)) ggX18_tooYoung_X18_fails
theorem dX18_tooYoung_145 : decode cX18_tooYoung 145 = .ok (.invokevirtual 88, 3) := by decide +kernel
theorem dX18_tooYoung_148 : decode cX18_tooYoung 148 = .ok (.goto 4, 3) := by decide +kernel
theorem dX18_tooYoung_152 : decode cX18_tooYoung 152 = .ok (.ireturn, 1) := by decide +kernel
theorem dX18_tooYoung_47 : decode cX18_tooYoung 47 = .ok (.aload_n 3, 1) := by decide +kernel
theorem dX18_tooYoung_48 : decode cX18_tooYoung 48 = .ok (.iload 5, 2) := by decide +kernel
theorem dX18_tooYoung_50 : decode cX18_tooYoung 50 = .ok (.aaload, 1) := by decide +kernel
theorem dX18_tooYoung_51 : decode cX18_tooYoung 51 = .ok (.astore 6, 2) := by decide +kernel
theorem dX18_tooYoung_53 : decode cX18_tooYoung 53 = .ok (.aload 6, 2) := by decide +kernel
theorem dX18_tooYoung_55 : decode cX18_tooYoung 55 = .ok (.getfield 141, 3) := by decide +kernel
set_option maxRecDepth 20000 in
theorem ggX18_tooYoung_Jx4a65c_iterator_32c93 : GoodIn wsX18_tooYoung wsJx4a65c_iterator_32c93 := goodIn_r _ [21, 22, 23, 24, 25, 26, 27, 28, 29, 30, 31, 32, 33, 34, 35, 91, 92, 93, 94, 95, 96, 97] (by decide +kernel) (by decide +kernel)
set_option maxRecDepth 20000 in
theorem gX18_tooYoung_Jx4a65c_iterator_32c93_f224Jx4a65c : GoodIn wsX18_tooYoung (va_wsF RX18 224 RJx4a65c ⟨"java/util/List", "iterator", "()Ljava/util/Iterator;"⟩ yJx4a65c_iterator_32c93 wsJx4a65c_iterator_32c93) := goodIn_app (goodIn_of _ (by decide +kernel)) ggX18_tooYoung_Jx4a65c_iterator_32c93
theorem dX18_tooYoung_58 : decode cX18_tooYoung 58 = .ok (.invokeinterface 224 1, 5) := by decide +kernel
theorem dX18_tooYoung_63 : decode cX18_tooYoung 63 = .ok (.astore 7, 2) := by decide +kernel
theorem dX18_tooYoung_65 : decode cX18_tooYoung 65 = .ok (.aload 7, 2) := by decide +kernel
set_option maxRecDepth 20000 in
theorem ggX18_tooYoung_Jx35411_hasNext_aae02 : GoodIn wsX18_tooYoung wsJx35411_hasNext_aae02 := goodIn_r _ [39, 40, 28, 91, 92, 93, 94, 95, 96, 97] (by decide +kernel) (by decide +kernel)
set_option maxRecDepth 20000 in
theorem gX18_tooYoung_Jx35411_hasNext_aae02_f228Jx35411 : GoodIn wsX18_tooYoung (va_wsF RX18 228 RJx35411 ⟨"java/util/Iterator", "hasNext", "()Z"⟩ yJx35411_hasNext_aae02 wsJx35411_hasNext_aae02) := goodIn_app (goodIn_of _ (by decide +kernel)) ggX18_tooYoung_Jx35411_hasNext_aae02
theorem dX18_tooYoung_67 : decode cX18_tooYoung 67 = .ok (.invokeinterface 228 1, 5) := by decide +kernel
theorem dX18_tooYoung_72 : decode cX18_tooYoung 72 = .ok (.ifCond .eq 59, 3) := by decide +kernel
theorem dX18_tooYoung_131 : decode cX18_tooYoung 131 = .ok (.iinc 5 1, 3) := by decide +kernel
theorem dX18_tooYoung_134 : decode cX18_tooYoung 134 = .ok (.goto (-94), 3) := by decide +kernel
theorem dX18_tooYoung_16 : decode cX18_tooYoung 16 = .ok (.aload_n 0, 1) := by decide +kernel
theorem dX18_tooYoung_17 : decode cX18_tooYoung 17 = .ok (.iconst 1, 1) := by decide +kernel
theorem dX18_tooYoung_18 : decode cX18_tooYoung 18 = .ok (.invokevirtual 88, 3) := by decide +kernel
theorem dX18_tooYoung_21 : decode cX18_tooYoung 21 = .ok (.ireturn, 1) := by decide +kernel
theorem z_c_X18_note_85 (ray : Int32) (x : Int32) (y : Int32) (r_1 : Int32) (a_0 : r_1 = if 0 ≤ ixL 1 ray then 1 else 0) (a_1 : r_1 = 0) : ((1 : Int32) = 0 ∧ ((0 : Int32) = if ray = 112 then 50 else if ray = 104 then -1 else 0) ∧ 0 ≤ ixL 1 ray ∧ (0 ≤ x ∧ x < 8) ∧ (0 ≤ y ∧ y < 6)) ∨ ((1 : Int32) = 1 ∧ ¬ (0 ≤ ixL 1 ray ∧ (0 ≤ x ∧ x < 8) ∧ (0 ≤ y ∧ y < 6))) := by grind [ixL1]
theorem z_c_X18_note_86 (ray : Int32) (x : Int32) (y : Int32) (r_1 : Int32) (r_5 : Int32) (a_0 : r_1 = if 0 ≤ ixL 1 ray then 1 else 0) (a_1 : ¬ r_1 = 0) (a_2 : r_5 = if (0 ≤ x ∧ x < 8) ∧ (0 ≤ y ∧ y < 6) then 1 else 0) (a_3 : ¬ r_5 = 0) : 1 < 6 := by grind [ixL1]
theorem z_c_X18_note_87 (ray : Int32) (x : Int32) (y : Int32) (r_1 : Int32) (r_5 : Int32) (x_9 : Int32) (x_10 : Int32) (x_11 : Int32) (x_12 : Int32) (x_13 : Int32) (x_14 : Int32) (a_0 : r_1 = if 0 ≤ ixL 1 ray then 1 else 0) (a_1 : ¬ r_1 = 0) (a_2 : r_5 = if (0 ≤ x ∧ x < 8) ∧ (0 ≤ y ∧ y < 6) then 1 else 0) (a_3 : ¬ r_5 = 0) (a_4 : x_9 = 48 * (ixL 1 ray)) (a_5 : x_10 = 8 * y) (a_6 : x_11 = x_9 + x_10) (a_7 : x_12 = x_11 + x) (a_8 : x_13 = 8 * y) (a_9 : x_14 = x_13 + x) : 0 ≤ x_14 := by grind [ixL1]
theorem z_c_X18_note_88 (ray : Int32) (x : Int32) (y : Int32) (r_1 : Int32) (r_5 : Int32) (x_9 : Int32) (x_10 : Int32) (x_11 : Int32) (x_12 : Int32) (x_13 : Int32) (x_14 : Int32) (a_0 : r_1 = if 0 ≤ ixL 1 ray then 1 else 0) (a_1 : ¬ r_1 = 0) (a_2 : r_5 = if (0 ≤ x ∧ x < 8) ∧ (0 ≤ y ∧ y < 6) then 1 else 0) (a_3 : ¬ r_5 = 0) (a_4 : x_9 = 48 * (ixL 1 ray)) (a_5 : x_10 = 8 * y) (a_6 : x_11 = x_9 + x_10) (a_7 : x_12 = x_11 + x) (a_8 : x_13 = 8 * y) (a_9 : x_14 = x_13 + x) : x_14 < 48 := by grind [ixL1]
theorem z_c_X18_note_89 (ray : Int32) (x : Int32) (y : Int32) (r_1 : Int32) (r_5 : Int32) (x_9 : Int32) (x_10 : Int32) (x_11 : Int32) (x_12 : Int32) (x_13 : Int32) (x_14 : Int32) (r_15 : Int32) (a_0 : r_1 = if 0 ≤ ixL 1 ray then 1 else 0) (a_1 : ¬ r_1 = 0) (a_2 : r_5 = if (0 ≤ x ∧ x < 8) ∧ (0 ≤ y ∧ y < 6) then 1 else 0) (a_3 : ¬ r_5 = 0) (a_4 : x_9 = 48 * (ixL 1 ray)) (a_5 : x_10 = 8 * y) (a_6 : x_11 = x_9 + x_10) (a_7 : x_12 = x_11 + x) (a_8 : x_13 = 8 * y) (a_9 : x_14 = x_13 + x) (a_10 : r_15 = if ray = 112 then 50 else if ray = 104 then -1 else 0) : 0 ≤ x_12 := by grind [ixL1]
theorem z_c_X18_note_90 (ray : Int32) (x : Int32) (y : Int32) (r_1 : Int32) (r_5 : Int32) (x_9 : Int32) (x_10 : Int32) (x_11 : Int32) (x_12 : Int32) (x_13 : Int32) (x_14 : Int32) (r_15 : Int32) (a_0 : r_1 = if 0 ≤ ixL 1 ray then 1 else 0) (a_1 : ¬ r_1 = 0) (a_2 : r_5 = if (0 ≤ x ∧ x < 8) ∧ (0 ≤ y ∧ y < 6) then 1 else 0) (a_3 : ¬ r_5 = 0) (a_4 : x_9 = 48 * (ixL 1 ray)) (a_5 : x_10 = 8 * y) (a_6 : x_11 = x_9 + x_10) (a_7 : x_12 = x_11 + x) (a_8 : x_13 = 8 * y) (a_9 : x_14 = x_13 + x) (a_10 : r_15 = if ray = 112 then 50 else if ray = 104 then -1 else 0) : x_12 < 240 := by grind [ixL1]
theorem z_c_X18_note_91 (ray : Int32) (x : Int32) (y : Int32) (r_1 : Int32) (r_5 : Int32) (x_9 : Int32) (x_10 : Int32) (x_11 : Int32) (x_12 : Int32) (x_13 : Int32) (x_14 : Int32) (r_15 : Int32) (a_0 : r_1 = if 0 ≤ ixL 1 ray then 1 else 0) (a_1 : ¬ r_1 = 0) (a_2 : r_5 = if (0 ≤ x ∧ x < 8) ∧ (0 ≤ y ∧ y < 6) then 1 else 0) (a_3 : ¬ r_5 = 0) (a_4 : x_9 = 48 * (ixL 1 ray)) (a_5 : x_10 = 8 * y) (a_6 : x_11 = x_9 + x_10) (a_7 : x_12 = x_11 + x) (a_8 : x_13 = 8 * y) (a_9 : x_14 = x_13 + x) (a_10 : r_15 = if ray = 112 then 50 else if ray = 104 then -1 else 0) : ((0 : Int32) = 0 ∧ (r_15 = if ray = 112 then 50 else if ray = 104 then -1 else 0) ∧ 0 ≤ ixL 1 ray ∧ (0 ≤ x ∧ x < 8) ∧ (0 ≤ y ∧ y < 6)) ∨ ((0 : Int32) = 1 ∧ ¬ (0 ≤ ixL 1 ray ∧ (0 ≤ x ∧ x < 8) ∧ (0 ≤ y ∧ y < 6))) := by grind [ixL1]
theorem z_c_X18_note_92 (ray : Int32) (x : Int32) (y : Int32) (r_1 : Int32) (r_5 : Int32) (a_0 : r_1 = if 0 ≤ ixL 1 ray then 1 else 0) (a_1 : ¬ r_1 = 0) (a_2 : r_5 = if (0 ≤ x ∧ x < 8) ∧ (0 ≤ y ∧ y < 6) then 1 else 0) (a_3 : r_5 = 0) : ((1 : Int32) = 0 ∧ ((0 : Int32) = if ray = 112 then 50 else if ray = 104 then -1 else 0) ∧ 0 ≤ ixL 1 ray ∧ (0 ≤ x ∧ x < 8) ∧ (0 ≤ y ∧ y < 6)) ∨ ((1 : Int32) = 1 ∧ ¬ (0 ≤ ixL 1 ray ∧ (0 ≤ x ∧ x < 8) ∧ (0 ≤ y ∧ y < 6))) := by grind [ixL1]
set_option maxHeartbeats 4000000 in
set_option maxRecDepth 100000 in
theorem c_X18_note (l : Launch) (dC : Nat → ClassId) (dI : Nat → Nat → Nat) (b0 : Nat) (en : EnT) (sz : Nat) (mm stu cla pic act nts isn boa mas pai sol bal leg : Nat) (ap scr : Nat) (g : Nat → Option Nat) (kP : ClassId) (N : Nat → Prop) (kN kB : ClassId) (ray x y : Int32) (hNb : ∀ a, N a → b0 ≤ a ∧ a < sz) (hNw : ∀ a, N a → a ∉ List.map Prod.fst ([(mm, .inr (24, [.int 0, .ref stu, .ref cla, .ref pic, .ref act, .int 5, .int 50, .ref nts, .ref isn, .int 1600, .ref boa, .ref mas, .ref pai, .ref sol, .int 0, .ref bal, .ref leg])), (nts, .inl (kN, 240, .inl (fun _ => 0))), (isn, .inl (kB, 240, .inl (fun _ => 0)))] : va_W)) (hNr : ∀ a, N a → a ∉ List.map Prod.fst ([(pic, .inr (20, [.ref ap, .ref scr, .int 1600, .int 0, .int 0, .ref mm])), (ap, .inl (kP, 48, .inr (.inr (.inr (.inr g)))))] : va_W)) : Met l yX18_note wsX18_note ({ frames := 6, cells := 8, slots := 32, locals := 151 } : Room) (cP b0 en (dC, dI) [(kP, .object "UnderpaintModel$Place"), (kN, .int), (kB, .boolean)] [(mm, .inr (24, [.int 0, .ref stu, .ref cla, .ref pic, .ref act, .int 5, .int 50, .ref nts, .ref isn, .int 1600, .ref boa, .ref mas, .ref pai, .ref sol, .int 0, .ref bal, .ref leg])), (nts, .inl (kN, 240, .inl (fun _ => 0))), (isn, .inl (kB, 240, .inl (fun _ => 0)))] [(pic, .inr (20, [.ref ap, .ref scr, .int 1600, .int 0, .int 0, .ref mm])), (ap, .inl (kP, 48, .inr (.inr (.inr (.inr g)))))] sz (FamP (dC, dI) N en.2.2.1 g) [.ref mm, .int ray, .int x, .int y]) (va_Qi (fun (r : Int32) (u : Int32 × List Value) => (u.1 = 0 ∧ (r = if ray = 112 then 50 else if ray = 104 then -1 else 0) ∧ 0 ≤ ixL 1 ray ∧ (0 ≤ x ∧ x < 8) ∧ (0 ≤ y ∧ y < 6)) ∨ (u.1 = 1 ∧ ¬ (0 ≤ ixL 1 ray ∧ (0 ≤ x ∧ x < 8) ∧ (0 ≤ y ∧ y < 6)))) (fun u t => cB (dC, dI) [] [(mm, .inr (24, .int u.1 :: u.2))] (va_A [(mm, .inr (24, [.int 0, .ref stu, .ref cla, .ref pic, .ref act, .int 5, .int 50, .ref nts, .ref isn, .int 1600, .ref boa, .ref mas, .ref pai, .ref sol, .int 0, .ref bal, .ref leg])), (nts, .inl (kN, 240, .inl (fun _ => 0))), (isn, .inl (kB, 240, .inl (fun _ => 0)))] sz) (fun _ => True) t) (va_A [(mm, .inr (24, [.int 0, .ref stu, .ref cla, .ref pic, .ref act, .int 5, .int 50, .ref nts, .ref isn, .int 1600, .ref boa, .ref mas, .ref pai, .ref sol, .int 0, .ref bal, .ref leg])), (nts, .inl (kN, 240, .inl (fun _ => 0))), (isn, .inl (kB, 240, .inl (fun _ => 0)))] sz)) 8 32 (va_A [(mm, .inr (24, [.int 0, .ref stu, .ref cla, .ref pic, .ref act, .int 5, .int 50, .ref nts, .ref isn, .int 1600, .ref boa, .ref mas, .ref pai, .ref sol, .int 0, .ref bal, .ref leg])), (nts, .inl (kN, 240, .inl (fun _ => 0))), (isn, .inl (kB, 240, .inl (fun _ => 0)))] sz) := by
  refine Met.ofW (cc := cX18_note) (maxL := 5) (ret := (some .int)) (by decide) rfl ?_
  intro p e s m args below meth c s₁ B hml hv
  obtain ⟨rfl, hsz, hb0, hE, hPP, hK, hDD, hF0⟩ := hv
  have hx := B.exec
  have hb := B.bytes
  have hr := B.returns
  have hts := atoms_spec (ws := wsX18_note) B.pre
  have hown : s.vm.findClass RX18 = some m.cls := findClass_of_methodNamed B.named
  have hlocks := B.notSynchronized
  subst hsz
  have hN0 := en_N hPP hDD rfl
  have hP : va_P (dC, dI) vwCl [(mm, .inr (24, [.int 0, .ref stu, .ref cla, .ref pic, .ref act, .int 5, .int 50, .ref nts, .ref isn, .int 1600, .ref boa, .ref mas, .ref pai, .ref sol, .int 0, .ref bal, .ref leg])), (nts, .inl (kN, 240, .inl (fun _ => 0))), (isn, .inl (kB, 240, .inl (fun _ => 0)))] s.heap := hPP.sub [0, 1, 2] rfl
  have hR0 : va_P (dC, dI) vwCl [(pic, .inr (20, [.ref ap, .ref scr, .int 1600, .int 0, .int 0, .ref mm])), (ap, .inl (kP, 48, .inr (.inr (.inr (.inr g)))))] s.heap := hPP.sub [3, 4] rfl
  have hD0 : va_D (fun q => b0 ≤ q) [(mm, .inr (24, [.int 0, .ref stu, .ref cla, .ref pic, .ref act, .int 5, .int 50, .ref nts, .ref isn, .int 1600, .ref boa, .ref mas, .ref pai, .ref sol, .int 0, .ref bal, .ref leg])), (nts, .inl (kN, 240, .inl (fun _ => 0))), (isn, .inl (kB, 240, .inl (fun _ => 0)))] := hDD.sub [0, 1, 2] (by decide) rfl
  have hDr : va_D (fun q => b0 ≤ q) [(pic, .inr (20, [.ref ap, .ref scr, .int 1600, .int 0, .int 0, .ref mm])), (ap, .inl (kP, 48, .inr (.inr (.inr (.inr g)))))] := hDD.sub [3, 4] (by decide) rfl
  have hAb := en_A (sz := s.heap.size) hD0 hb0
  have hD := hD0.self (sz := s.heap.size)
  generalize hAe : va_A [(mm, .inr (24, [.int 0, .ref stu, .ref cla, .ref pic, .ref act, .int 5, .int 50, .ref nts, .ref isn, .int 1600, .ref boa, .ref mas, .ref pai, .ref sol, .int 0, .ref bal, .ref leg])), (nts, .inl (kN, 240, .inl (fun _ => 0))), (isn, .inl (kB, 240, .inl (fun _ => 0)))] s.heap.size = A at hD hAb hN0 ⊢
  have hA : ∀ q : Nat, s.heap.size ≤ q → A q := fun q h => by rw [← hAe]; exact Or.inr h
  have hS : va_S A s.heap s.heap [] := va_S.rf
  have hR := hR0
  have hl := lv_entry [.ref mm, .int ray, .int x, .int y] (n := 5) (Nat.le_of_ble_eq_true rfl)
  rw [lg_entry_eq]
  generalize (lg_sl [.ref mm, .int ray, .int x, .int y] ++ List.replicate (5 - (lg_sl [.ref mm, .int ray, .int x, .int y]).length) Slot.unset).toArray = ls at hl ⊢
  have hl : lv_has ls 5 [(0, .ref mm), (1, .int ray), (2, .int x), (3, .int y)] := hl
  have hR0b := hR0
  have hDrb := hDr
  have hN0b := hN0
  refine lv_aload_n hx hb dX18_note_0 rfl (lv_at hl 0 rfl) ?_
  refine lv_iconst (v := 0) hx hb dX18_note_1 (by decide) ?_
  refine va_put (D := (dC, dI)) (ci := 24) (v := .int 0) (ty := .int) (C := RX18) (T := TX18) (N := 17) hx hb hts (by decide +kernel) tyX18 tyX18_ok nmX18 hown hK hP hD hS 0 rfl rfl 0 (by decide) (hts (.fieldLink RX18 67 "UnderpaintModel" "code" "I") (by decide +kernel)) (fun _ h9 => h9) rfl (by decide +kernel) rfl rfl (Nat.le_of_ble_eq_true rfl) dX18_note_2 (fun H locs hP hD hS => ?_)
  have hP : va_P (dC, dI) vwCl [(mm, .inr (24, [.int 0, .ref stu, .ref cla, .ref pic, .ref act, .int 5, .int 50, .ref nts, .ref isn, .int 1600, .ref boa, .ref mas, .ref pai, .ref sol, .int 0, .ref bal, .ref leg])), (nts, .inl (kN, 240, .inl (fun _ => 0))), (isn, .inl (kB, 240, .inl (fun _ => 0)))] H := hP
  have hD : va_D A [(mm, .inr (24, [.int 0, .ref stu, .ref cla, .ref pic, .ref act, .int 5, .int 50, .ref nts, .ref isn, .int 1600, .ref boa, .ref mas, .ref pai, .ref sol, .int 0, .ref bal, .ref leg])), (nts, .inl (kN, 240, .inl (fun _ => 0))), (isn, .inl (kB, 240, .inl (fun _ => 0)))] := hD
  have hR := en_R hR0 hN0 hS
  refine lv_iload_n hx hb dX18_note_5 rfl (lv_at hl 1 rfl) ?_
  have hPc := (hP.app hR).sub (ws' := [] ++ []) [] rfl
  have hDc := (en_DD hD hDr hN0 hAb).sub (ws' := [] ++ []) [] (by decide) rfl
  have hKc := hK.sub (tys' := []) [] rfl
  have hFc := va_free (wc := []) hD hS hA [] rfl
  refine va_calli (va_runS (As := [.int ray]) (rest := []) ⟨hx, hb, hml, hown, hts⟩ (c_X18_isRay l dC dI b0 en H.size ray) (va_cwS 1 hts gX18_note_X18_isRay rfl rfl rfl (by decide +kernel) ⟨Nat.le_of_ble_eq_true rfl, Nat.le_of_ble_eq_true rfl⟩) ⟨cP.blind, cP.use (en_z hb0 hS) (hE.on hAb hS) hPc hKc hDc trivial⟩ rfl rfl hl.1 rfl (lv_room (Nat.le_of_ble_eq_true rfl)) dX18_note_6 ⟨Nat.le_of_ble_eq_true rfl, Nat.le_of_ble_eq_true rfl⟩) hS (fun q _ h => hFc q h) hFc (fun r_1 u t H1 locs ht hvm hw hB hz1 hk1 hS => ?_)
  have hP1 : va_P (dC, dI) vwCl [] H1 := fun k q h => by simp at h
  have hD1 : va_D (va_A [] H.size) [] := ⟨fun i j p q h => by simp at h, fun k q h => by simp at h⟩
  try dsimp only at hw
  obtain ⟨hP, hD⟩ := va_join (wr := [(mm, .inr (24, [.int 0, .ref stu, .ref cla, .ref pic, .ref act, .int 5, .int 50, .ref nts, .ref isn, .int 1600, .ref boa, .ref mas, .ref pai, .ref sol, .int 0, .ref bal, .ref leg])), (nts, .inl (kN, 240, .inl (fun _ => 0))), (isn, .inl (kB, 240, .inl (fun _ => 0)))]) (w1 := []) hP hD [] [0, 1, 2] rfl rfl (by decide) (by decide) hk1 hFc hP1 hD1
  generalize H1 = H at hP hS ⊢
  have hP : va_P (dC, dI) vwCl [(mm, .inr (24, [.int 0, .ref stu, .ref cla, .ref pic, .ref act, .int 5, .int 50, .ref nts, .ref isn, .int 1600, .ref boa, .ref mas, .ref pai, .ref sol, .int 0, .ref bal, .ref leg])), (nts, .inl (kN, 240, .inl (fun _ => 0))), (isn, .inl (kB, 240, .inl (fun _ => 0)))] H := hP
  have hD : va_D A [(mm, .inr (24, [.int 0, .ref stu, .ref cla, .ref pic, .ref act, .int 5, .int 50, .ref nts, .ref isn, .int 1600, .ref boa, .ref mas, .ref pai, .ref sol, .int 0, .ref bal, .ref leg])), (nts, .inl (kN, 240, .inl (fun _ => 0))), (isn, .inl (kB, 240, .inl (fun _ => 0)))] := hD
  have hR := en_R hR0 hN0 hS
  refine W.widen (k := 0) (n := 0) (Nat.le_of_ble_eq_true rfl) (Nat.le_of_ble_eq_true rfl) ?_
  have h_2 := hw
  refine lv_if_eq (tgt := 20) hx hb dX18_note_9 (by decide) (fun c_3 => ?_) (fun c_3 => ?_)
  · skip
    refine lv_aload_n hx hb dX18_note_20 rfl (lv_at hl 0 rfl) ?_
    refine lv_iconst (v := 1) hx hb dX18_note_21 (by decide) ?_
    have hPc := (hP.app hR).sub (ws' := [(mm, .inr (24, .int 0 :: ([.ref stu, .ref cla, .ref pic, .ref act, .int 5, .int 50, .ref nts, .ref isn, .int 1600, .ref boa, .ref mas, .ref pai, .ref sol, .int 0, .ref bal, .ref leg])))] ++ []) [0] rfl
    have hDc := (en_DD hD hDr hN0 hAb).sub (ws' := [(mm, .inr (24, .int 0 :: ([.ref stu, .ref cla, .ref pic, .ref act, .int 5, .int 50, .ref nts, .ref isn, .int 1600, .ref boa, .ref mas, .ref pai, .ref sol, .int 0, .ref bal, .ref leg])))] ++ []) [0] (by decide) rfl
    have hKc := hK.sub (tys' := []) [] rfl
    have hFc := va_free (wc := [(mm, .inr (24, .int 0 :: ([.ref stu, .ref cla, .ref pic, .ref act, .int 5, .int 50, .ref nts, .ref isn, .int 1600, .ref boa, .ref mas, .ref pai, .ref sol, .int 0, .ref bal, .ref leg])))]) hD hS hA [0] rfl
    refine va_calli (va_runV (As := [.int 1]) (rest := []) ⟨hx, hb, hml, hown, hts⟩ (c_X18_fails l dC dI b0 en H.size mm 0 1 ([.ref stu, .ref cla, .ref pic, .ref act, .int 5, .int 50, .ref nts, .ref isn, .int 1600, .ref boa, .ref mas, .ref pai, .ref sol, .int 0, .ref bal, .ref leg])) (cwV 1 hts gX18_note_X18_fails rfl rfl rfl (by decide +kernel) ⟨Nat.le_of_ble_eq_true rfl, Nat.le_of_ble_eq_true rfl⟩) ⟨cP.blind, va_recv hK hP (ci := 24) (q0 := 0) rfl rfl, cP.use (en_z hb0 hS) (hE.on hAb hS) hPc hKc hDc trivial⟩ rfl rfl hl.1 rfl (lv_room (Nat.le_of_ble_eq_true rfl)) dX18_note_22 ⟨Nat.le_of_ble_eq_true rfl, Nat.le_of_ble_eq_true rfl⟩) hS (fun q _ h => hFc q h) hFc (fun r_4 u t H1 locs ht hvm hw hB hz1 hk1 hS => ?_)
    obtain ⟨hP1, hK1, hD1, hF1⟩ := hB
    rw [ht] at hP1
    try rw [ht] at hF1
    have hK1 := va_K.moved hvm.symm hK1
    try dsimp only at hw
    obtain ⟨hP, hD⟩ := va_join (wr := [(nts, .inl (kN, 240, .inl (fun _ => 0))), (isn, .inl (kB, 240, .inl (fun _ => 0)))]) (w1 := [(mm, .inr (24, [.int 1, .ref stu, .ref cla, .ref pic, .ref act, .int 5, .int 50, .ref nts, .ref isn, .int 1600, .ref boa, .ref mas, .ref pai, .ref sol, .int 0, .ref bal, .ref leg]))]) hP hD [0] [1, 2] rfl rfl (by decide) (by decide) hk1 hFc hP1 hD1
    generalize H1 = H at hP hS ⊢
    have hP : va_P (dC, dI) vwCl [(nts, .inl (kN, 240, .inl (fun _ => 0))), (isn, .inl (kB, 240, .inl (fun _ => 0))), (mm, .inr (24, [.int 1, .ref stu, .ref cla, .ref pic, .ref act, .int 5, .int 50, .ref nts, .ref isn, .int 1600, .ref boa, .ref mas, .ref pai, .ref sol, .int 0, .ref bal, .ref leg]))] H := hP
    have hD : va_D A [(nts, .inl (kN, 240, .inl (fun _ => 0))), (isn, .inl (kB, 240, .inl (fun _ => 0))), (mm, .inr (24, [.int 1, .ref stu, .ref cla, .ref pic, .ref act, .int 5, .int 50, .ref nts, .ref isn, .int 1600, .ref boa, .ref mas, .ref pai, .ref sol, .int 0, .ref bal, .ref leg]))] := hD
    have hR := en_R hR0 hN0 hS
    refine W.widen (k := 0) (n := 0) (Nat.le_of_ble_eq_true rfl) (Nat.le_of_ble_eq_true rfl) ?_
    subst r_4
    refine W.widen (k := 8) (n := 32) (Nat.le_of_ble_eq_true rfl) (Nat.le_of_ble_eq_true rfl) ?_
    exact W.iret (v := 0) hx hb hr (fun t ht hW => ⟨⟨0, ⟨1, [.ref stu, .ref cla, .ref pic, .ref act, .int 5, .int 50, .ref nts, .ref isn, .int 1600, .ref boa, .ref mas, .ref pai, .ref sol, .int 0, .ref bal, .ref leg]⟩, rfl, (z_c_X18_note_85 ray x y r_1 h_2 c_3), cB.mk ht hW (hP.sub [2] rfl) (hK.sub [] rfl) (hD.sub [2] (by decide) rfl) (trivial)⟩, hS.F ht⟩) hS.2.2 dX18_note_25
  · skip
    refine lv_iload_n hx hb dX18_note_12 rfl (lv_at hl 2 rfl) ?_
    refine lv_iload_n hx hb dX18_note_13 rfl (lv_at hl 3 rfl) ?_
    have hPc := (hP.app hR).sub (ws' := [] ++ []) [] rfl
    have hDc := (en_DD hD hDr hN0 hAb).sub (ws' := [] ++ []) [] (by decide) rfl
    have hKc := hK.sub (tys' := []) [] rfl
    have hFc := va_free (wc := []) hD hS hA [] rfl
    refine va_calli (va_runS (As := [.int x, .int y]) (rest := []) ⟨hx, hb, hml, hown, hts⟩ (c_X18_isPlace l dC dI b0 en H.size x y) (va_cwS 2 hts gX18_note_X18_isPlace rfl rfl rfl (by decide +kernel) ⟨Nat.le_of_ble_eq_true rfl, Nat.le_of_ble_eq_true rfl⟩) ⟨cP.blind, cP.use (en_z hb0 hS) (hE.on hAb hS) hPc hKc hDc trivial⟩ rfl rfl hl.1 rfl (lv_room (Nat.le_of_ble_eq_true rfl)) dX18_note_14 ⟨Nat.le_of_ble_eq_true rfl, Nat.le_of_ble_eq_true rfl⟩) hS (fun q _ h => hFc q h) hFc (fun r_5 u t H1 locs ht hvm hw hB hz1 hk1 hS => ?_)
    have hP1 : va_P (dC, dI) vwCl [] H1 := fun k q h => by simp at h
    have hD1 : va_D (va_A [] H.size) [] := ⟨fun i j p q h => by simp at h, fun k q h => by simp at h⟩
    try dsimp only at hw
    obtain ⟨hP, hD⟩ := va_join (wr := [(mm, .inr (24, [.int 0, .ref stu, .ref cla, .ref pic, .ref act, .int 5, .int 50, .ref nts, .ref isn, .int 1600, .ref boa, .ref mas, .ref pai, .ref sol, .int 0, .ref bal, .ref leg])), (nts, .inl (kN, 240, .inl (fun _ => 0))), (isn, .inl (kB, 240, .inl (fun _ => 0)))]) (w1 := []) hP hD [] [0, 1, 2] rfl rfl (by decide) (by decide) hk1 hFc hP1 hD1
    generalize H1 = H at hP hS ⊢
    have hP : va_P (dC, dI) vwCl [(mm, .inr (24, [.int 0, .ref stu, .ref cla, .ref pic, .ref act, .int 5, .int 50, .ref nts, .ref isn, .int 1600, .ref boa, .ref mas, .ref pai, .ref sol, .int 0, .ref bal, .ref leg])), (nts, .inl (kN, 240, .inl (fun _ => 0))), (isn, .inl (kB, 240, .inl (fun _ => 0)))] H := hP
    have hD : va_D A [(mm, .inr (24, [.int 0, .ref stu, .ref cla, .ref pic, .ref act, .int 5, .int 50, .ref nts, .ref isn, .int 1600, .ref boa, .ref mas, .ref pai, .ref sol, .int 0, .ref bal, .ref leg])), (nts, .inl (kN, 240, .inl (fun _ => 0))), (isn, .inl (kB, 240, .inl (fun _ => 0)))] := hD
    have hR := en_R hR0 hN0 hS
    refine W.widen (k := 0) (n := 0) (Nat.le_of_ble_eq_true rfl) (Nat.le_of_ble_eq_true rfl) ?_
    have h_6 := hw
    refine lv_if_ne (tgt := 26) hx hb dX18_note_17 (by decide) (fun c_7 => ?_) (fun c_7 => ?_)
    · skip
      refine lv_bipush (v := 48) hx hb dX18_note_26 (by decide) ?_
      refine va_ldcS hx hb hown (hE.ldc (1, "UnderpaintModel", 177, "pwhlr") (by decide +kernel)) dX18_note_28 ?_
      refine lv_iload_n hx hb dX18_note_30 rfl (lv_at hl 1 rfl) ?_
      have hPc := (hP.app hR).sub (ws' := [] ++ []) [] rfl
      have hDc := (en_DD hD hDr hN0 hAb).sub (ws' := [] ++ []) [] (by decide) rfl
      have hKc := hK.sub (tys' := []) [] rfl
      have hFc := va_free (wc := []) hD hS hA [] rfl
      refine va_calli (va_runV (As := [.int ray]) (rest := [.int 48]) ⟨hx, hb, hml, hown, hts⟩ (c_J0_indexOf l dC dI b0 en H.size 1 ray (z_c_X18_note_86 ray x y r_1 r_5 h_2 c_3 h_6 c_7)) (cwV 1 hts gX18_note_J0_indexOf_0f7a4 rfl rfl rfl (by decide +kernel) ⟨Nat.le_of_ble_eq_true rfl, Nat.le_of_ble_eq_true rfl⟩) ⟨cP.blind, (en_recv (hE.lit hAb 1 (by decide)).1 hS), cP.use (en_z hb0 hS) (hE.on hAb hS) hPc hKc hDc trivial⟩ rfl rfl hl.1 rfl (lv_room (Nat.le_of_ble_eq_true rfl)) dX18_note_31 ⟨Nat.le_of_ble_eq_true rfl, Nat.le_of_ble_eq_true rfl⟩) hS (fun q _ h => hFc q h) hFc (fun r_8 u t H1 locs ht hvm hw hB hz1 hk1 hS => ?_)
      have hP1 : va_P (dC, dI) vwCl [] H1 := fun k q h => by simp at h
      have hD1 : va_D (va_A [] H.size) [] := ⟨fun i j p q h => by simp at h, fun k q h => by simp at h⟩
      try dsimp only at hw
      obtain ⟨hP, hD⟩ := va_join (wr := [(mm, .inr (24, [.int 0, .ref stu, .ref cla, .ref pic, .ref act, .int 5, .int 50, .ref nts, .ref isn, .int 1600, .ref boa, .ref mas, .ref pai, .ref sol, .int 0, .ref bal, .ref leg])), (nts, .inl (kN, 240, .inl (fun _ => 0))), (isn, .inl (kB, 240, .inl (fun _ => 0)))]) (w1 := []) hP hD [] [0, 1, 2] rfl rfl (by decide) (by decide) hk1 hFc hP1 hD1
      generalize H1 = H at hP hS ⊢
      have hP : va_P (dC, dI) vwCl [(mm, .inr (24, [.int 0, .ref stu, .ref cla, .ref pic, .ref act, .int 5, .int 50, .ref nts, .ref isn, .int 1600, .ref boa, .ref mas, .ref pai, .ref sol, .int 0, .ref bal, .ref leg])), (nts, .inl (kN, 240, .inl (fun _ => 0))), (isn, .inl (kB, 240, .inl (fun _ => 0)))] H := hP
      have hD : va_D A [(mm, .inr (24, [.int 0, .ref stu, .ref cla, .ref pic, .ref act, .int 5, .int 50, .ref nts, .ref isn, .int 1600, .ref boa, .ref mas, .ref pai, .ref sol, .int 0, .ref bal, .ref leg])), (nts, .inl (kN, 240, .inl (fun _ => 0))), (isn, .inl (kB, 240, .inl (fun _ => 0)))] := hD
      have hR := en_R hR0 hN0 hS
      refine W.widen (k := 0) (n := 0) (Nat.le_of_ble_eq_true rfl) (Nat.le_of_ble_eq_true rfl) ?_
      subst r_8
      refine lv_imul hx hb dX18_note_34 ?_
      refine lv_topi (fun x_9 ex_9 => ?_)
      refine lv_bipush (v := 8) hx hb dX18_note_35 (by decide) ?_
      refine lv_iload_n hx hb dX18_note_37 rfl (lv_at hl 3 rfl) ?_
      refine lv_imul hx hb dX18_note_38 ?_
      refine lv_topi (fun x_10 ex_10 => ?_)
      refine lv_iadd hx hb dX18_note_39 ?_
      refine lv_topi (fun x_11 ex_11 => ?_)
      refine lv_iload_n hx hb dX18_note_40 rfl (lv_at hl 2 rfl) ?_
      refine lv_iadd hx hb dX18_note_41 ?_
      refine lv_topi (fun x_12 ex_12 => ?_)
      refine lv_istore (lv' := [(4, .int x_12), (0, .ref mm), (1, .int ray), (2, .int x), (3, .int y)]) hx hb dX18_note_42 hl (by decide) rfl (fun ls hl => ?_)
      refine lv_aload_n hx hb dX18_note_44 rfl (lv_at hl 1 rfl) ?_
      refine va_get (D := (dC, dI)) (ci := 24) (v := .ref nts) (C := RX18) (T := TX18) (N := 17) hx hb hts (by decide +kernel) hown hK hP 0 rfl rfl 7 (by decide) (hts (.fieldLink RX18 39 "UnderpaintModel" "notes" "[I") (by decide +kernel)) (fun _ h9 => h9) rfl dX18_note_45 ?_
      refine lv_iload hx hb dX18_note_48 (lv_at hl 0 rfl) ?_
      refine lv_aload_n hx hb dX18_note_50 rfl (lv_at hl 1 rfl) ?_
      refine va_get (D := (dC, dI)) (ci := 24) (v := .ref pic) (C := RX18) (T := TX18) (N := 17) hx hb hts (by decide +kernel) hown hK hP 0 rfl rfl 3 (by decide) (hts (.fieldLink RX18 25 "UnderpaintModel" "picture" "LUnderpaintModel$Picture;") (by decide +kernel)) (fun _ h9 => h9) rfl dX18_note_51 ?_
      refine lv_iload_n hx hb dX18_note_54 rfl (lv_at hl 2 rfl) ?_
      refine lv_bipush (v := 8) hx hb dX18_note_55 (by decide) ?_
      refine lv_iload_n hx hb dX18_note_57 rfl (lv_at hl 4 rfl) ?_
      refine lv_imul hx hb dX18_note_58 ?_
      refine lv_topi (fun x_13 ex_13 => ?_)
      refine lv_iload_n hx hb dX18_note_59 rfl (lv_at hl 3 rfl) ?_
      refine lv_iadd hx hb dX18_note_60 ?_
      refine lv_topi (fun x_14 ex_14 => ?_)
      have hPc := (hP.app hR).sub (ws' := [] ++ [(pic, .inr (20, [.ref ap, .ref scr, .int 1600, .int 0, .int 0, .ref mm])), (ap, .inl (kP, 48, .inr (.inr (.inr (.inr g)))))]) [3, 4] rfl
      have hDc := (en_DD hD hDr hN0 hAb).sub (ws' := [] ++ [(pic, .inr (20, [.ref ap, .ref scr, .int 1600, .int 0, .int 0, .ref mm])), (ap, .inl (kP, 48, .inr (.inr (.inr (.inr g)))))]) [3, 4] (by decide) rfl
      have hKc := hK.sub (tys' := [(kP, .object "UnderpaintModel$Place")]) [0] rfl
      have hFc := va_free (wc := []) hD hS hA [] rfl
      refine va_calli (va_runV (As := [.int ray, .int x_14]) (rest := [.int x_12, .ref nts]) ⟨hx, hb, hml, hown, hts⟩ (c_X14_view l dC dI b0 en H.size pic ap scr mm g kP N ray x_14 (z_c_X18_note_87 ray x y r_1 r_5 x_9 x_10 x_11 x_12 x_13 x_14 h_2 c_3 h_6 c_7 ex_9 ex_10 ex_11 ex_12 ex_13 ex_14) (z_c_X18_note_88 ray x y r_1 r_5 x_9 x_10 x_11 x_12 x_13 x_14 h_2 c_3 h_6 c_7 ex_9 ex_10 ex_11 ex_12 ex_13 ex_14) (fun a9 h9 => ⟨(hNb a9 h9).1, Nat.lt_of_lt_of_le (hNb a9 h9).2 hS.1⟩) (fun a9 h9 z9 => by have g1 := hNw a9 h9; have g2 := hNr a9 h9; simp only [List.map_cons, List.map_nil, List.mem_cons, List.not_mem_nil, or_false, not_or] at g1 g2 z9 <;> omega) (fun a9 h9 z9 => by have g1 := hNw a9 h9; have g2 := hNr a9 h9; simp only [List.map_cons, List.map_nil, List.mem_cons, List.not_mem_nil, or_false, not_or] at g1 g2 z9 <;> omega)) (cwV 2 hts gX18_note_X14_view rfl rfl rfl (by decide +kernel) ⟨Nat.le_of_ble_eq_true rfl, Nat.le_of_ble_eq_true rfl⟩) ⟨cP.blind, va_recv hK hR (ci := 20) (q0 := 0) rfl rfl, cP.use (en_z hb0 hS) (hE.on hAb hS) hPc hKc hDc (hF0.on (fun a9 h8 h9 => by rw [← hAe]; exact vA1 h8 (hNw a9 h9)) hS)⟩ rfl rfl hl.1 rfl (lv_room (Nat.le_of_ble_eq_true rfl)) dX18_note_61 ⟨Nat.le_of_ble_eq_true rfl, Nat.le_of_ble_eq_true rfl⟩) hS (fun q _ h => hFc q h) hFc (fun r_15 u t H1 locs ht hvm hw hB hz1 hk1 hS => ?_)
      have hP1 : va_P (dC, dI) vwCl [] H1 := fun k q h => by simp at h
      have hD1 : va_D (va_A [] H.size) [] := ⟨fun i j p q h => by simp at h, fun k q h => by simp at h⟩
      try dsimp only at hw
      obtain ⟨hP, hD⟩ := va_join (wr := [(mm, .inr (24, [.int 0, .ref stu, .ref cla, .ref pic, .ref act, .int 5, .int 50, .ref nts, .ref isn, .int 1600, .ref boa, .ref mas, .ref pai, .ref sol, .int 0, .ref bal, .ref leg])), (nts, .inl (kN, 240, .inl (fun _ => 0))), (isn, .inl (kB, 240, .inl (fun _ => 0)))]) (w1 := []) hP hD [] [0, 1, 2] rfl rfl (by decide) (by decide) hk1 hFc hP1 hD1
      generalize H1 = H at hP hS ⊢
      have hP : va_P (dC, dI) vwCl [(mm, .inr (24, [.int 0, .ref stu, .ref cla, .ref pic, .ref act, .int 5, .int 50, .ref nts, .ref isn, .int 1600, .ref boa, .ref mas, .ref pai, .ref sol, .int 0, .ref bal, .ref leg])), (nts, .inl (kN, 240, .inl (fun _ => 0))), (isn, .inl (kB, 240, .inl (fun _ => 0)))] H := hP
      have hD : va_D A [(mm, .inr (24, [.int 0, .ref stu, .ref cla, .ref pic, .ref act, .int 5, .int 50, .ref nts, .ref isn, .int 1600, .ref boa, .ref mas, .ref pai, .ref sol, .int 0, .ref bal, .ref leg])), (nts, .inl (kN, 240, .inl (fun _ => 0))), (isn, .inl (kB, 240, .inl (fun _ => 0)))] := hD
      have hR := en_R hR0 hN0 hS
      refine W.widen (k := 8) (n := 32) (Nat.le_of_ble_eq_true rfl) (Nat.le_of_ble_eq_true rfl) ?_
      have h_16 := hw
      refine va_iast hx hb hK hP hD hS 1 1 rfl rfl (vp_ok (n := 240) (by decide) (z_c_X18_note_89 ray x y r_1 r_5 x_9 x_10 x_11 x_12 x_13 x_14 r_15 h_2 c_3 h_6 c_7 ex_9 ex_10 ex_11 ex_12 ex_13 ex_14 h_16) (z_c_X18_note_90 ray x y r_1 r_5 x_9 x_10 x_11 x_12 x_13 x_14 r_15 h_2 c_3 h_6 c_7 ex_9 ex_10 ex_11 ex_12 ex_13 ex_14 h_16)) dX18_note_64 (fun H locs hP hD hS => ?_)
      generalize ef_17 : upd (fun _ => 0) x_12.toNatClampNeg r_15 = f_17 at hP hD
      have hP : va_P (dC, dI) vwCl [(mm, .inr (24, [.int 0, .ref stu, .ref cla, .ref pic, .ref act, .int 5, .int 50, .ref nts, .ref isn, .int 1600, .ref boa, .ref mas, .ref pai, .ref sol, .int 0, .ref bal, .ref leg])), (nts, .inl (kN, 240, .inl f_17)), (isn, .inl (kB, 240, .inl (fun _ => 0)))] H := hP
      have hD : va_D A [(mm, .inr (24, [.int 0, .ref stu, .ref cla, .ref pic, .ref act, .int 5, .int 50, .ref nts, .ref isn, .int 1600, .ref boa, .ref mas, .ref pai, .ref sol, .int 0, .ref bal, .ref leg])), (nts, .inl (kN, 240, .inl f_17)), (isn, .inl (kB, 240, .inl (fun _ => 0)))] := hD
      have hR := en_R hR0 hN0 hS
      refine lv_aload_n hx hb dX18_note_65 rfl (lv_at hl 1 rfl) ?_
      refine va_get (D := (dC, dI)) (ci := 24) (v := .ref isn) (C := RX18) (T := TX18) (N := 17) hx hb hts (by decide +kernel) hown hK hP 0 rfl rfl 8 (by decide) (hts (.fieldLink RX18 43 "UnderpaintModel" "isNoted" "[Z") (by decide +kernel)) (fun _ h9 => h9) rfl dX18_note_66 ?_
      refine lv_iload hx hb dX18_note_69 (lv_at hl 0 rfl) ?_
      refine lv_iconst (v := 1) hx hb dX18_note_71 (by decide) ?_
      refine va_zast hx hb hK hP hD hS 2 2 rfl rfl (vp_ok (n := 240) (by decide) (z_c_X18_note_89 ray x y r_1 r_5 x_9 x_10 x_11 x_12 x_13 x_14 r_15 h_2 c_3 h_6 c_7 ex_9 ex_10 ex_11 ex_12 ex_13 ex_14 h_16) (z_c_X18_note_90 ray x y r_1 r_5 x_9 x_10 x_11 x_12 x_13 x_14 r_15 h_2 c_3 h_6 c_7 ex_9 ex_10 ex_11 ex_12 ex_13 ex_14 h_16)) dX18_note_72 (fun H locs hP hD hS => ?_)
      generalize ef_18 : upd (fun _ => 0) x_12.toNatClampNeg (vp_nar .boolean 1) = f_18 at hP hD
      have hP : va_P (dC, dI) vwCl [(mm, .inr (24, [.int 0, .ref stu, .ref cla, .ref pic, .ref act, .int 5, .int 50, .ref nts, .ref isn, .int 1600, .ref boa, .ref mas, .ref pai, .ref sol, .int 0, .ref bal, .ref leg])), (nts, .inl (kN, 240, .inl f_17)), (isn, .inl (kB, 240, .inl f_18))] H := hP
      have hD : va_D A [(mm, .inr (24, [.int 0, .ref stu, .ref cla, .ref pic, .ref act, .int 5, .int 50, .ref nts, .ref isn, .int 1600, .ref boa, .ref mas, .ref pai, .ref sol, .int 0, .ref bal, .ref leg])), (nts, .inl (kN, 240, .inl f_17)), (isn, .inl (kB, 240, .inl f_18))] := hD
      have hR := en_R hR0 hN0 hS
      refine lv_aload_n hx hb dX18_note_73 rfl (lv_at hl 1 rfl) ?_
      refine va_get (D := (dC, dI)) (ci := 24) (v := .ref nts) (C := RX18) (T := TX18) (N := 17) hx hb hts (by decide +kernel) hown hK hP 0 rfl rfl 7 (by decide) (hts (.fieldLink RX18 39 "UnderpaintModel" "notes" "[I") (by decide +kernel)) (fun _ h9 => h9) rfl dX18_note_74 ?_
      refine lv_iload hx hb dX18_note_77 (lv_at hl 0 rfl) ?_
      refine va_iald hx hb hK hP 1 1 rfl rfl (vp_ok (n := 240) (by decide) (z_c_X18_note_89 ray x y r_1 r_5 x_9 x_10 x_11 x_12 x_13 x_14 r_15 h_2 c_3 h_6 c_7 ex_9 ex_10 ex_11 ex_12 ex_13 ex_14 h_16) (z_c_X18_note_90 ray x y r_1 r_5 x_9 x_10 x_11 x_12 x_13 x_14 r_15 h_2 c_3 h_6 c_7 ex_9 ex_10 ex_11 ex_12 ex_13 ex_14 h_16)) dX18_note_79 ?_
      refine lv_topv (w := .int r_15) (congrArg Value.int (by rw [← ef_17]; exact if_pos rfl)) ?_
      refine W.widen (k := 8) (n := 32) (Nat.le_of_ble_eq_true rfl) (Nat.le_of_ble_eq_true rfl) ?_
      exact W.iret (v := r_15) hx hb hr (fun t ht hW => ⟨⟨r_15, ⟨0, [.ref stu, .ref cla, .ref pic, .ref act, .int 5, .int 50, .ref nts, .ref isn, .int 1600, .ref boa, .ref mas, .ref pai, .ref sol, .int 0, .ref bal, .ref leg]⟩, rfl, (z_c_X18_note_91 ray x y r_1 r_5 x_9 x_10 x_11 x_12 x_13 x_14 r_15 h_2 c_3 h_6 c_7 ex_9 ex_10 ex_11 ex_12 ex_13 ex_14 h_16), cB.mk ht hW (hP.sub [0] rfl) (hK.sub [] rfl) (hD.sub [0] (by decide) rfl) (trivial)⟩, hS.F ht⟩) hS.2.2 dX18_note_80
    · skip
      refine lv_aload_n hx hb dX18_note_20 rfl (lv_at hl 0 rfl) ?_
      refine lv_iconst (v := 1) hx hb dX18_note_21 (by decide) ?_
      have hPc := (hP.app hR).sub (ws' := [(mm, .inr (24, .int 0 :: ([.ref stu, .ref cla, .ref pic, .ref act, .int 5, .int 50, .ref nts, .ref isn, .int 1600, .ref boa, .ref mas, .ref pai, .ref sol, .int 0, .ref bal, .ref leg])))] ++ []) [0] rfl
      have hDc := (en_DD hD hDr hN0 hAb).sub (ws' := [(mm, .inr (24, .int 0 :: ([.ref stu, .ref cla, .ref pic, .ref act, .int 5, .int 50, .ref nts, .ref isn, .int 1600, .ref boa, .ref mas, .ref pai, .ref sol, .int 0, .ref bal, .ref leg])))] ++ []) [0] (by decide) rfl
      have hKc := hK.sub (tys' := []) [] rfl
      have hFc := va_free (wc := [(mm, .inr (24, .int 0 :: ([.ref stu, .ref cla, .ref pic, .ref act, .int 5, .int 50, .ref nts, .ref isn, .int 1600, .ref boa, .ref mas, .ref pai, .ref sol, .int 0, .ref bal, .ref leg])))]) hD hS hA [0] rfl
      refine va_calli (va_runV (As := [.int 1]) (rest := []) ⟨hx, hb, hml, hown, hts⟩ (c_X18_fails l dC dI b0 en H.size mm 0 1 ([.ref stu, .ref cla, .ref pic, .ref act, .int 5, .int 50, .ref nts, .ref isn, .int 1600, .ref boa, .ref mas, .ref pai, .ref sol, .int 0, .ref bal, .ref leg])) (cwV 1 hts gX18_note_X18_fails rfl rfl rfl (by decide +kernel) ⟨Nat.le_of_ble_eq_true rfl, Nat.le_of_ble_eq_true rfl⟩) ⟨cP.blind, va_recv hK hP (ci := 24) (q0 := 0) rfl rfl, cP.use (en_z hb0 hS) (hE.on hAb hS) hPc hKc hDc trivial⟩ rfl rfl hl.1 rfl (lv_room (Nat.le_of_ble_eq_true rfl)) dX18_note_22 ⟨Nat.le_of_ble_eq_true rfl, Nat.le_of_ble_eq_true rfl⟩) hS (fun q _ h => hFc q h) hFc (fun r_19 u t H1 locs ht hvm hw hB hz1 hk1 hS => ?_)
      obtain ⟨hP1, hK1, hD1, hF1⟩ := hB
      rw [ht] at hP1
      try rw [ht] at hF1
      have hK1 := va_K.moved hvm.symm hK1
      try dsimp only at hw
      obtain ⟨hP, hD⟩ := va_join (wr := [(nts, .inl (kN, 240, .inl (fun _ => 0))), (isn, .inl (kB, 240, .inl (fun _ => 0)))]) (w1 := [(mm, .inr (24, [.int 1, .ref stu, .ref cla, .ref pic, .ref act, .int 5, .int 50, .ref nts, .ref isn, .int 1600, .ref boa, .ref mas, .ref pai, .ref sol, .int 0, .ref bal, .ref leg]))]) hP hD [0] [1, 2] rfl rfl (by decide) (by decide) hk1 hFc hP1 hD1
      generalize H1 = H at hP hS ⊢
      have hP : va_P (dC, dI) vwCl [(nts, .inl (kN, 240, .inl (fun _ => 0))), (isn, .inl (kB, 240, .inl (fun _ => 0))), (mm, .inr (24, [.int 1, .ref stu, .ref cla, .ref pic, .ref act, .int 5, .int 50, .ref nts, .ref isn, .int 1600, .ref boa, .ref mas, .ref pai, .ref sol, .int 0, .ref bal, .ref leg]))] H := hP
      have hD : va_D A [(nts, .inl (kN, 240, .inl (fun _ => 0))), (isn, .inl (kB, 240, .inl (fun _ => 0))), (mm, .inr (24, [.int 1, .ref stu, .ref cla, .ref pic, .ref act, .int 5, .int 50, .ref nts, .ref isn, .int 1600, .ref boa, .ref mas, .ref pai, .ref sol, .int 0, .ref bal, .ref leg]))] := hD
      have hR := en_R hR0 hN0 hS
      refine W.widen (k := 0) (n := 0) (Nat.le_of_ble_eq_true rfl) (Nat.le_of_ble_eq_true rfl) ?_
      subst r_19
      refine W.widen (k := 8) (n := 32) (Nat.le_of_ble_eq_true rfl) (Nat.le_of_ble_eq_true rfl) ?_
      exact W.iret (v := 0) hx hb hr (fun t ht hW => ⟨⟨0, ⟨1, [.ref stu, .ref cla, .ref pic, .ref act, .int 5, .int 50, .ref nts, .ref isn, .int 1600, .ref boa, .ref mas, .ref pai, .ref sol, .int 0, .ref bal, .ref leg]⟩, rfl, (z_c_X18_note_92 ray x y r_1 r_5 h_2 c_3 h_6 c_7), cB.mk ht hW (hP.sub [2] rfl) (hK.sub [] rfl) (hD.sub [2] (by decide) rfl) (trivial)⟩, hS.F ht⟩) hS.2.2 dX18_note_25
theorem z_c_X18_noted_93 (ray : Int32) (x : Int32) (y : Int32) (r_1 : Int32) (a_0 : r_1 = if 0 ≤ ixL 1 ray then 1 else 0) (a_1 : r_1 = 0) : (1 : Int32) = if 0 ≤ ixL 1 ray ∧ (0 ≤ x ∧ x < 8) ∧ (0 ≤ y ∧ y < 6) then 2 else 1 := by grind [ixL1]
theorem z_c_X18_noted_94 (ray : Int32) (x : Int32) (y : Int32) (r_1 : Int32) (r_5 : Int32) (x_9 : Int32) (x_10 : Int32) (x_11 : Int32) (x_12 : Int32) (a_0 : r_1 = if 0 ≤ ixL 1 ray then 1 else 0) (a_1 : ¬ r_1 = 0) (a_2 : r_5 = if (0 ≤ x ∧ x < 8) ∧ (0 ≤ y ∧ y < 6) then 1 else 0) (a_3 : ¬ r_5 = 0) (a_4 : x_9 = 48 * (ixL 1 ray)) (a_5 : x_10 = 8 * y) (a_6 : x_11 = x_9 + x_10) (a_7 : x_12 = x_11 + x) : 0 ≤ x_12 := by grind [ixL1]
theorem z_c_X18_noted_95 (ray : Int32) (x : Int32) (y : Int32) (r_1 : Int32) (r_5 : Int32) (x_9 : Int32) (x_10 : Int32) (x_11 : Int32) (x_12 : Int32) (a_0 : r_1 = if 0 ≤ ixL 1 ray then 1 else 0) (a_1 : ¬ r_1 = 0) (a_2 : r_5 = if (0 ≤ x ∧ x < 8) ∧ (0 ≤ y ∧ y < 6) then 1 else 0) (a_3 : ¬ r_5 = 0) (a_4 : x_9 = 48 * (ixL 1 ray)) (a_5 : x_10 = 8 * y) (a_6 : x_11 = x_9 + x_10) (a_7 : x_12 = x_11 + x) : x_12 < 240 := by grind [ixL1]
theorem z_c_X18_noted_96 (ray : Int32) (x : Int32) (y : Int32) (r_1 : Int32) (r_5 : Int32) (x_9 : Int32) (x_10 : Int32) (x_11 : Int32) (x_12 : Int32) (a_0 : r_1 = if 0 ≤ ixL 1 ray then 1 else 0) (a_1 : ¬ r_1 = 0) (a_2 : r_5 = if (0 ≤ x ∧ x < 8) ∧ (0 ≤ y ∧ y < 6) then 1 else 0) (a_3 : ¬ r_5 = 0) (a_4 : x_9 = 48 * (ixL 1 ray)) (a_5 : x_10 = 8 * y) (a_6 : x_11 = x_9 + x_10) (a_7 : x_12 = x_11 + x) : (2 : Int32) = if 0 ≤ ixL 1 ray ∧ (0 ≤ x ∧ x < 8) ∧ (0 ≤ y ∧ y < 6) then 2 else 1 := by grind [ixL1]
theorem z_c_X18_noted_97 (ray : Int32) (x : Int32) (y : Int32) (r_1 : Int32) (r_5 : Int32) (a_0 : r_1 = if 0 ≤ ixL 1 ray then 1 else 0) (a_1 : ¬ r_1 = 0) (a_2 : r_5 = if (0 ≤ x ∧ x < 8) ∧ (0 ≤ y ∧ y < 6) then 1 else 0) (a_3 : r_5 = 0) : (1 : Int32) = if 0 ≤ ixL 1 ray ∧ (0 ≤ x ∧ x < 8) ∧ (0 ≤ y ∧ y < 6) then 2 else 1 := by grind [ixL1]
set_option maxHeartbeats 4000000 in
set_option maxRecDepth 100000 in
theorem c_X18_noted (l : Launch) (dC : Nat → ClassId) (dI : Nat → Nat → Nat) (b0 : Nat) (en : EnT) (sz : Nat) (mm stu cla pic act nts isn boa mas pai sol bal leg : Nat) (kB : ClassId) (ray x y : Int32) : Met l yX18_noted wsX18_noted ({ frames := 5, cells := 0, slots := 0, locals := 151 } : Room) (cP b0 en (dC, dI) [(kB, .boolean)] [(mm, .inr (24, [.int 0, .ref stu, .ref cla, .ref pic, .ref act, .int 5, .int 50, .ref nts, .ref isn, .int 1600, .ref boa, .ref mas, .ref pai, .ref sol, .int 0, .ref bal, .ref leg]))] [(isn, .inl (kB, 240, .inl (fun _ => 0)))] sz (fun _ => True) [.ref mm, .int ray, .int x, .int y]) (va_Qi (fun (r : Int32) (u : Int32 × List Value) => u.1 = if 0 ≤ ixL 1 ray ∧ (0 ≤ x ∧ x < 8) ∧ (0 ≤ y ∧ y < 6) then 2 else 1) (fun u t => cB (dC, dI) [] [(mm, .inr (24, .int u.1 :: u.2))] (va_A [(mm, .inr (24, [.int 0, .ref stu, .ref cla, .ref pic, .ref act, .int 5, .int 50, .ref nts, .ref isn, .int 1600, .ref boa, .ref mas, .ref pai, .ref sol, .int 0, .ref bal, .ref leg]))] sz) (fun _ => True) t) (va_A [(mm, .inr (24, [.int 0, .ref stu, .ref cla, .ref pic, .ref act, .int 5, .int 50, .ref nts, .ref isn, .int 1600, .ref boa, .ref mas, .ref pai, .ref sol, .int 0, .ref bal, .ref leg]))] sz)) 0 0 (va_A [(mm, .inr (24, [.int 0, .ref stu, .ref cla, .ref pic, .ref act, .int 5, .int 50, .ref nts, .ref isn, .int 1600, .ref boa, .ref mas, .ref pai, .ref sol, .int 0, .ref bal, .ref leg]))] sz) := by
  refine Met.ofW (cc := cX18_noted) (maxL := 5) (ret := (some .int)) (by decide) rfl ?_
  intro p e s m args below meth c s₁ B hml hv
  obtain ⟨rfl, hsz, hb0, hE, hPP, hK, hDD, hF0⟩ := hv
  have hx := B.exec
  have hb := B.bytes
  have hr := B.returns
  have hts := atoms_spec (ws := wsX18_noted) B.pre
  have hown : s.vm.findClass RX18 = some m.cls := findClass_of_methodNamed B.named
  have hlocks := B.notSynchronized
  subst hsz
  have hN0 := en_N hPP hDD rfl
  have hP : va_P (dC, dI) vwCl [(mm, .inr (24, [.int 0, .ref stu, .ref cla, .ref pic, .ref act, .int 5, .int 50, .ref nts, .ref isn, .int 1600, .ref boa, .ref mas, .ref pai, .ref sol, .int 0, .ref bal, .ref leg]))] s.heap := hPP.sub [0] rfl
  have hR0 : va_P (dC, dI) vwCl [(isn, .inl (kB, 240, .inl (fun _ => 0)))] s.heap := hPP.sub [1] rfl
  have hD0 : va_D (fun q => b0 ≤ q) [(mm, .inr (24, [.int 0, .ref stu, .ref cla, .ref pic, .ref act, .int 5, .int 50, .ref nts, .ref isn, .int 1600, .ref boa, .ref mas, .ref pai, .ref sol, .int 0, .ref bal, .ref leg]))] := hDD.sub [0] (by decide) rfl
  have hDr : va_D (fun q => b0 ≤ q) [(isn, .inl (kB, 240, .inl (fun _ => 0)))] := hDD.sub [1] (by decide) rfl
  have hAb := en_A (sz := s.heap.size) hD0 hb0
  have hD := hD0.self (sz := s.heap.size)
  generalize hAe : va_A [(mm, .inr (24, [.int 0, .ref stu, .ref cla, .ref pic, .ref act, .int 5, .int 50, .ref nts, .ref isn, .int 1600, .ref boa, .ref mas, .ref pai, .ref sol, .int 0, .ref bal, .ref leg]))] s.heap.size = A at hD hAb hN0 ⊢
  have hA : ∀ q : Nat, s.heap.size ≤ q → A q := fun q h => by rw [← hAe]; exact Or.inr h
  have hS : va_S A s.heap s.heap [] := va_S.rf
  have hR := hR0
  have hl := lv_entry [.ref mm, .int ray, .int x, .int y] (n := 5) (Nat.le_of_ble_eq_true rfl)
  rw [lg_entry_eq]
  generalize (lg_sl [.ref mm, .int ray, .int x, .int y] ++ List.replicate (5 - (lg_sl [.ref mm, .int ray, .int x, .int y]).length) Slot.unset).toArray = ls at hl ⊢
  have hl : lv_has ls 5 [(0, .ref mm), (1, .int ray), (2, .int x), (3, .int y)] := hl
  refine lv_aload_n hx hb dX18_noted_0 rfl (lv_at hl 0 rfl) ?_
  refine lv_iconst (v := 0) hx hb dX18_noted_1 (by decide) ?_
  refine va_put (D := (dC, dI)) (ci := 24) (v := .int 0) (ty := .int) (C := RX18) (T := TX18) (N := 17) hx hb hts (by decide +kernel) tyX18 tyX18_ok nmX18 hown hK hP hD hS 0 rfl rfl 0 (by decide) (hts (.fieldLink RX18 67 "UnderpaintModel" "code" "I") (by decide +kernel)) (fun _ h9 => h9) rfl (by decide +kernel) rfl rfl (Nat.le_of_ble_eq_true rfl) dX18_noted_2 (fun H locs hP hD hS => ?_)
  have hP : va_P (dC, dI) vwCl [(mm, .inr (24, [.int 0, .ref stu, .ref cla, .ref pic, .ref act, .int 5, .int 50, .ref nts, .ref isn, .int 1600, .ref boa, .ref mas, .ref pai, .ref sol, .int 0, .ref bal, .ref leg]))] H := hP
  have hD : va_D A [(mm, .inr (24, [.int 0, .ref stu, .ref cla, .ref pic, .ref act, .int 5, .int 50, .ref nts, .ref isn, .int 1600, .ref boa, .ref mas, .ref pai, .ref sol, .int 0, .ref bal, .ref leg]))] := hD
  have hR := en_R hR0 hN0 hS
  refine lv_iload_n hx hb dX18_noted_5 rfl (lv_at hl 1 rfl) ?_
  have hPc := (hP.app hR).sub (ws' := [] ++ []) [] rfl
  have hDc := (en_DD hD hDr hN0 hAb).sub (ws' := [] ++ []) [] (by decide) rfl
  have hKc := hK.sub (tys' := []) [] rfl
  have hFc := va_free (wc := []) hD hS hA [] rfl
  refine va_calli (va_runS (As := [.int ray]) (rest := []) ⟨hx, hb, hml, hown, hts⟩ (c_X18_isRay l dC dI b0 en H.size ray) (va_cwS 1 hts gX18_noted_X18_isRay rfl rfl rfl (by decide +kernel) ⟨Nat.le_of_ble_eq_true rfl, Nat.le_of_ble_eq_true rfl⟩) ⟨cP.blind, cP.use (en_z hb0 hS) (hE.on hAb hS) hPc hKc hDc trivial⟩ rfl rfl hl.1 rfl (lv_room (Nat.le_of_ble_eq_true rfl)) dX18_noted_6 ⟨Nat.le_of_ble_eq_true rfl, Nat.le_of_ble_eq_true rfl⟩) hS (fun q _ h => hFc q h) hFc (fun r_1 u t H1 locs ht hvm hw hB hz1 hk1 hS => ?_)
  have hP1 : va_P (dC, dI) vwCl [] H1 := fun k q h => by simp at h
  have hD1 : va_D (va_A [] H.size) [] := ⟨fun i j p q h => by simp at h, fun k q h => by simp at h⟩
  try dsimp only at hw
  obtain ⟨hP, hD⟩ := va_join (wr := [(mm, .inr (24, [.int 0, .ref stu, .ref cla, .ref pic, .ref act, .int 5, .int 50, .ref nts, .ref isn, .int 1600, .ref boa, .ref mas, .ref pai, .ref sol, .int 0, .ref bal, .ref leg]))]) (w1 := []) hP hD [] [0] rfl rfl (by decide) (by decide) hk1 hFc hP1 hD1
  generalize H1 = H at hP hS ⊢
  have hP : va_P (dC, dI) vwCl [(mm, .inr (24, [.int 0, .ref stu, .ref cla, .ref pic, .ref act, .int 5, .int 50, .ref nts, .ref isn, .int 1600, .ref boa, .ref mas, .ref pai, .ref sol, .int 0, .ref bal, .ref leg]))] H := hP
  have hD : va_D A [(mm, .inr (24, [.int 0, .ref stu, .ref cla, .ref pic, .ref act, .int 5, .int 50, .ref nts, .ref isn, .int 1600, .ref boa, .ref mas, .ref pai, .ref sol, .int 0, .ref bal, .ref leg]))] := hD
  have hR := en_R hR0 hN0 hS
  refine W.widen (k := 0) (n := 0) (Nat.le_of_ble_eq_true rfl) (Nat.le_of_ble_eq_true rfl) ?_
  have h_2 := hw
  refine lv_if_eq (tgt := 20) hx hb dX18_noted_9 (by decide) (fun c_3 => ?_) (fun c_3 => ?_)
  · skip
    refine lv_aload_n hx hb dX18_noted_20 rfl (lv_at hl 0 rfl) ?_
    refine lv_iconst (v := 1) hx hb dX18_noted_21 (by decide) ?_
    have hPc := (hP.app hR).sub (ws' := [(mm, .inr (24, .int 0 :: ([.ref stu, .ref cla, .ref pic, .ref act, .int 5, .int 50, .ref nts, .ref isn, .int 1600, .ref boa, .ref mas, .ref pai, .ref sol, .int 0, .ref bal, .ref leg])))] ++ []) [0] rfl
    have hDc := (en_DD hD hDr hN0 hAb).sub (ws' := [(mm, .inr (24, .int 0 :: ([.ref stu, .ref cla, .ref pic, .ref act, .int 5, .int 50, .ref nts, .ref isn, .int 1600, .ref boa, .ref mas, .ref pai, .ref sol, .int 0, .ref bal, .ref leg])))] ++ []) [0] (by decide) rfl
    have hKc := hK.sub (tys' := []) [] rfl
    have hFc := va_free (wc := [(mm, .inr (24, .int 0 :: ([.ref stu, .ref cla, .ref pic, .ref act, .int 5, .int 50, .ref nts, .ref isn, .int 1600, .ref boa, .ref mas, .ref pai, .ref sol, .int 0, .ref bal, .ref leg])))]) hD hS hA [0] rfl
    refine va_calli (va_runV (As := [.int 1]) (rest := []) ⟨hx, hb, hml, hown, hts⟩ (c_X18_fails l dC dI b0 en H.size mm 0 1 ([.ref stu, .ref cla, .ref pic, .ref act, .int 5, .int 50, .ref nts, .ref isn, .int 1600, .ref boa, .ref mas, .ref pai, .ref sol, .int 0, .ref bal, .ref leg])) (cwV 1 hts gX18_noted_X18_fails rfl rfl rfl (by decide +kernel) ⟨Nat.le_of_ble_eq_true rfl, Nat.le_of_ble_eq_true rfl⟩) ⟨cP.blind, va_recv hK hP (ci := 24) (q0 := 0) rfl rfl, cP.use (en_z hb0 hS) (hE.on hAb hS) hPc hKc hDc trivial⟩ rfl rfl hl.1 rfl (lv_room (Nat.le_of_ble_eq_true rfl)) dX18_noted_22 ⟨Nat.le_of_ble_eq_true rfl, Nat.le_of_ble_eq_true rfl⟩) hS (fun q _ h => hFc q h) hFc (fun r_4 u t H1 locs ht hvm hw hB hz1 hk1 hS => ?_)
    obtain ⟨hP1, hK1, hD1, hF1⟩ := hB
    rw [ht] at hP1
    try rw [ht] at hF1
    have hK1 := va_K.moved hvm.symm hK1
    try dsimp only at hw
    obtain ⟨hP, hD⟩ := va_join (wr := []) (w1 := [(mm, .inr (24, [.int 1, .ref stu, .ref cla, .ref pic, .ref act, .int 5, .int 50, .ref nts, .ref isn, .int 1600, .ref boa, .ref mas, .ref pai, .ref sol, .int 0, .ref bal, .ref leg]))]) hP hD [0] [] rfl rfl (by decide) (by decide) hk1 hFc hP1 hD1
    generalize H1 = H at hP hS ⊢
    have hP : va_P (dC, dI) vwCl [(mm, .inr (24, [.int 1, .ref stu, .ref cla, .ref pic, .ref act, .int 5, .int 50, .ref nts, .ref isn, .int 1600, .ref boa, .ref mas, .ref pai, .ref sol, .int 0, .ref bal, .ref leg]))] H := hP
    have hD : va_D A [(mm, .inr (24, [.int 1, .ref stu, .ref cla, .ref pic, .ref act, .int 5, .int 50, .ref nts, .ref isn, .int 1600, .ref boa, .ref mas, .ref pai, .ref sol, .int 0, .ref bal, .ref leg]))] := hD
    have hR := en_R hR0 hN0 hS
    refine W.widen (k := 0) (n := 0) (Nat.le_of_ble_eq_true rfl) (Nat.le_of_ble_eq_true rfl) ?_
    subst r_4
    refine W.widen (k := 0) (n := 0) (Nat.le_of_ble_eq_true rfl) (Nat.le_of_ble_eq_true rfl) ?_
    exact W.iret (v := 0) hx hb hr (fun t ht hW => ⟨⟨0, ⟨1, [.ref stu, .ref cla, .ref pic, .ref act, .int 5, .int 50, .ref nts, .ref isn, .int 1600, .ref boa, .ref mas, .ref pai, .ref sol, .int 0, .ref bal, .ref leg]⟩, rfl, (z_c_X18_noted_93 ray x y r_1 h_2 c_3), cB.mk ht hW (hP.sub [0] rfl) (hK.sub [] rfl) (hD.sub [0] (by decide) rfl) (trivial)⟩, hS.F ht⟩) hS.2.2 dX18_noted_25
  · skip
    refine lv_iload_n hx hb dX18_noted_12 rfl (lv_at hl 2 rfl) ?_
    refine lv_iload_n hx hb dX18_noted_13 rfl (lv_at hl 3 rfl) ?_
    have hPc := (hP.app hR).sub (ws' := [] ++ []) [] rfl
    have hDc := (en_DD hD hDr hN0 hAb).sub (ws' := [] ++ []) [] (by decide) rfl
    have hKc := hK.sub (tys' := []) [] rfl
    have hFc := va_free (wc := []) hD hS hA [] rfl
    refine va_calli (va_runS (As := [.int x, .int y]) (rest := []) ⟨hx, hb, hml, hown, hts⟩ (c_X18_isPlace l dC dI b0 en H.size x y) (va_cwS 2 hts gX18_noted_X18_isPlace rfl rfl rfl (by decide +kernel) ⟨Nat.le_of_ble_eq_true rfl, Nat.le_of_ble_eq_true rfl⟩) ⟨cP.blind, cP.use (en_z hb0 hS) (hE.on hAb hS) hPc hKc hDc trivial⟩ rfl rfl hl.1 rfl (lv_room (Nat.le_of_ble_eq_true rfl)) dX18_noted_14 ⟨Nat.le_of_ble_eq_true rfl, Nat.le_of_ble_eq_true rfl⟩) hS (fun q _ h => hFc q h) hFc (fun r_5 u t H1 locs ht hvm hw hB hz1 hk1 hS => ?_)
    have hP1 : va_P (dC, dI) vwCl [] H1 := fun k q h => by simp at h
    have hD1 : va_D (va_A [] H.size) [] := ⟨fun i j p q h => by simp at h, fun k q h => by simp at h⟩
    try dsimp only at hw
    obtain ⟨hP, hD⟩ := va_join (wr := [(mm, .inr (24, [.int 0, .ref stu, .ref cla, .ref pic, .ref act, .int 5, .int 50, .ref nts, .ref isn, .int 1600, .ref boa, .ref mas, .ref pai, .ref sol, .int 0, .ref bal, .ref leg]))]) (w1 := []) hP hD [] [0] rfl rfl (by decide) (by decide) hk1 hFc hP1 hD1
    generalize H1 = H at hP hS ⊢
    have hP : va_P (dC, dI) vwCl [(mm, .inr (24, [.int 0, .ref stu, .ref cla, .ref pic, .ref act, .int 5, .int 50, .ref nts, .ref isn, .int 1600, .ref boa, .ref mas, .ref pai, .ref sol, .int 0, .ref bal, .ref leg]))] H := hP
    have hD : va_D A [(mm, .inr (24, [.int 0, .ref stu, .ref cla, .ref pic, .ref act, .int 5, .int 50, .ref nts, .ref isn, .int 1600, .ref boa, .ref mas, .ref pai, .ref sol, .int 0, .ref bal, .ref leg]))] := hD
    have hR := en_R hR0 hN0 hS
    refine W.widen (k := 0) (n := 0) (Nat.le_of_ble_eq_true rfl) (Nat.le_of_ble_eq_true rfl) ?_
    have h_6 := hw
    refine lv_if_ne (tgt := 26) hx hb dX18_noted_17 (by decide) (fun c_7 => ?_) (fun c_7 => ?_)
    · skip
      refine lv_bipush (v := 48) hx hb dX18_noted_26 (by decide) ?_
      refine va_ldcS hx hb hown (hE.ldc (1, "UnderpaintModel", 177, "pwhlr") (by decide +kernel)) dX18_noted_28 ?_
      refine lv_iload_n hx hb dX18_noted_30 rfl (lv_at hl 1 rfl) ?_
      have hPc := (hP.app hR).sub (ws' := [] ++ []) [] rfl
      have hDc := (en_DD hD hDr hN0 hAb).sub (ws' := [] ++ []) [] (by decide) rfl
      have hKc := hK.sub (tys' := []) [] rfl
      have hFc := va_free (wc := []) hD hS hA [] rfl
      refine va_calli (va_runV (As := [.int ray]) (rest := [.int 48]) ⟨hx, hb, hml, hown, hts⟩ (c_J0_indexOf l dC dI b0 en H.size 1 ray (z_c_X18_note_86 ray x y r_1 r_5 h_2 c_3 h_6 c_7)) (cwV 1 hts gX18_noted_J0_indexOf_0f7a4 rfl rfl rfl (by decide +kernel) ⟨Nat.le_of_ble_eq_true rfl, Nat.le_of_ble_eq_true rfl⟩) ⟨cP.blind, (en_recv (hE.lit hAb 1 (by decide)).1 hS), cP.use (en_z hb0 hS) (hE.on hAb hS) hPc hKc hDc trivial⟩ rfl rfl hl.1 rfl (lv_room (Nat.le_of_ble_eq_true rfl)) dX18_noted_31 ⟨Nat.le_of_ble_eq_true rfl, Nat.le_of_ble_eq_true rfl⟩) hS (fun q _ h => hFc q h) hFc (fun r_8 u t H1 locs ht hvm hw hB hz1 hk1 hS => ?_)
      have hP1 : va_P (dC, dI) vwCl [] H1 := fun k q h => by simp at h
      have hD1 : va_D (va_A [] H.size) [] := ⟨fun i j p q h => by simp at h, fun k q h => by simp at h⟩
      try dsimp only at hw
      obtain ⟨hP, hD⟩ := va_join (wr := [(mm, .inr (24, [.int 0, .ref stu, .ref cla, .ref pic, .ref act, .int 5, .int 50, .ref nts, .ref isn, .int 1600, .ref boa, .ref mas, .ref pai, .ref sol, .int 0, .ref bal, .ref leg]))]) (w1 := []) hP hD [] [0] rfl rfl (by decide) (by decide) hk1 hFc hP1 hD1
      generalize H1 = H at hP hS ⊢
      have hP : va_P (dC, dI) vwCl [(mm, .inr (24, [.int 0, .ref stu, .ref cla, .ref pic, .ref act, .int 5, .int 50, .ref nts, .ref isn, .int 1600, .ref boa, .ref mas, .ref pai, .ref sol, .int 0, .ref bal, .ref leg]))] H := hP
      have hD : va_D A [(mm, .inr (24, [.int 0, .ref stu, .ref cla, .ref pic, .ref act, .int 5, .int 50, .ref nts, .ref isn, .int 1600, .ref boa, .ref mas, .ref pai, .ref sol, .int 0, .ref bal, .ref leg]))] := hD
      have hR := en_R hR0 hN0 hS
      refine W.widen (k := 0) (n := 0) (Nat.le_of_ble_eq_true rfl) (Nat.le_of_ble_eq_true rfl) ?_
      subst r_8
      refine lv_imul hx hb dX18_noted_34 ?_
      refine lv_topi (fun x_9 ex_9 => ?_)
      refine lv_bipush (v := 8) hx hb dX18_noted_35 (by decide) ?_
      refine lv_iload_n hx hb dX18_noted_37 rfl (lv_at hl 3 rfl) ?_
      refine lv_imul hx hb dX18_noted_38 ?_
      refine lv_topi (fun x_10 ex_10 => ?_)
      refine lv_iadd hx hb dX18_noted_39 ?_
      refine lv_topi (fun x_11 ex_11 => ?_)
      refine lv_iload_n hx hb dX18_noted_40 rfl (lv_at hl 2 rfl) ?_
      refine lv_iadd hx hb dX18_noted_41 ?_
      refine lv_topi (fun x_12 ex_12 => ?_)
      refine lv_istore (lv' := [(4, .int x_12), (0, .ref mm), (1, .int ray), (2, .int x), (3, .int y)]) hx hb dX18_noted_42 hl (by decide) rfl (fun ls hl => ?_)
      refine lv_aload_n hx hb dX18_noted_44 rfl (lv_at hl 1 rfl) ?_
      refine va_get (D := (dC, dI)) (ci := 24) (v := .ref isn) (C := RX18) (T := TX18) (N := 17) hx hb hts (by decide +kernel) hown hK hP 0 rfl rfl 8 (by decide) (hts (.fieldLink RX18 43 "UnderpaintModel" "isNoted" "[Z") (by decide +kernel)) (fun _ h9 => h9) rfl dX18_noted_45 ?_
      refine lv_iload hx hb dX18_noted_48 (lv_at hl 0 rfl) ?_
      refine va_zald hx hb hK hR 0 0 rfl rfl (vp_ok (n := 240) (by decide) (z_c_X18_noted_94 ray x y r_1 r_5 x_9 x_10 x_11 x_12 h_2 c_3 h_6 c_7 ex_9 ex_10 ex_11 ex_12) (z_c_X18_noted_95 ray x y r_1 r_5 x_9 x_10 x_11 x_12 h_2 c_3 h_6 c_7 ex_9 ex_10 ex_11 ex_12)) dX18_noted_50 ?_
      refine lv_topi (fun x_13 ex_13 => ?_)
      obtain rfl : x_13 = 0 := ex_13.trans rfl
      refine lv_if_eq (tgt := 64) hx hb dX18_noted_51 (by decide) (fun c_14 => ?_) (fun c_14 => absurd c_14 (by decide))
      refine lv_aload_n hx hb dX18_noted_64 rfl (lv_at hl 1 rfl) ?_
      refine lv_iconst (v := 2) hx hb dX18_noted_65 (by decide) ?_
      have hPc := (hP.app hR).sub (ws' := [(mm, .inr (24, .int 0 :: ([.ref stu, .ref cla, .ref pic, .ref act, .int 5, .int 50, .ref nts, .ref isn, .int 1600, .ref boa, .ref mas, .ref pai, .ref sol, .int 0, .ref bal, .ref leg])))] ++ []) [0] rfl
      have hDc := (en_DD hD hDr hN0 hAb).sub (ws' := [(mm, .inr (24, .int 0 :: ([.ref stu, .ref cla, .ref pic, .ref act, .int 5, .int 50, .ref nts, .ref isn, .int 1600, .ref boa, .ref mas, .ref pai, .ref sol, .int 0, .ref bal, .ref leg])))] ++ []) [0] (by decide) rfl
      have hKc := hK.sub (tys' := []) [] rfl
      have hFc := va_free (wc := [(mm, .inr (24, .int 0 :: ([.ref stu, .ref cla, .ref pic, .ref act, .int 5, .int 50, .ref nts, .ref isn, .int 1600, .ref boa, .ref mas, .ref pai, .ref sol, .int 0, .ref bal, .ref leg])))]) hD hS hA [0] rfl
      refine va_calli (va_runV (As := [.int 2]) (rest := []) ⟨hx, hb, hml, hown, hts⟩ (c_X18_fails l dC dI b0 en H.size mm 0 2 ([.ref stu, .ref cla, .ref pic, .ref act, .int 5, .int 50, .ref nts, .ref isn, .int 1600, .ref boa, .ref mas, .ref pai, .ref sol, .int 0, .ref bal, .ref leg])) (cwV 1 hts gX18_noted_X18_fails rfl rfl rfl (by decide +kernel) ⟨Nat.le_of_ble_eq_true rfl, Nat.le_of_ble_eq_true rfl⟩) ⟨cP.blind, va_recv hK hP (ci := 24) (q0 := 0) rfl rfl, cP.use (en_z hb0 hS) (hE.on hAb hS) hPc hKc hDc trivial⟩ rfl rfl hl.1 rfl (lv_room (Nat.le_of_ble_eq_true rfl)) dX18_noted_66 ⟨Nat.le_of_ble_eq_true rfl, Nat.le_of_ble_eq_true rfl⟩) hS (fun q _ h => hFc q h) hFc (fun r_15 u t H1 locs ht hvm hw hB hz1 hk1 hS => ?_)
      obtain ⟨hP1, hK1, hD1, hF1⟩ := hB
      rw [ht] at hP1
      try rw [ht] at hF1
      have hK1 := va_K.moved hvm.symm hK1
      try dsimp only at hw
      obtain ⟨hP, hD⟩ := va_join (wr := []) (w1 := [(mm, .inr (24, [.int 2, .ref stu, .ref cla, .ref pic, .ref act, .int 5, .int 50, .ref nts, .ref isn, .int 1600, .ref boa, .ref mas, .ref pai, .ref sol, .int 0, .ref bal, .ref leg]))]) hP hD [0] [] rfl rfl (by decide) (by decide) hk1 hFc hP1 hD1
      generalize H1 = H at hP hS ⊢
      have hP : va_P (dC, dI) vwCl [(mm, .inr (24, [.int 2, .ref stu, .ref cla, .ref pic, .ref act, .int 5, .int 50, .ref nts, .ref isn, .int 1600, .ref boa, .ref mas, .ref pai, .ref sol, .int 0, .ref bal, .ref leg]))] H := hP
      have hD : va_D A [(mm, .inr (24, [.int 2, .ref stu, .ref cla, .ref pic, .ref act, .int 5, .int 50, .ref nts, .ref isn, .int 1600, .ref boa, .ref mas, .ref pai, .ref sol, .int 0, .ref bal, .ref leg]))] := hD
      have hR := en_R hR0 hN0 hS
      refine W.widen (k := 0) (n := 0) (Nat.le_of_ble_eq_true rfl) (Nat.le_of_ble_eq_true rfl) ?_
      subst r_15
      refine W.widen (k := 0) (n := 0) (Nat.le_of_ble_eq_true rfl) (Nat.le_of_ble_eq_true rfl) ?_
      exact W.iret (v := 0) hx hb hr (fun t ht hW => ⟨⟨0, ⟨2, [.ref stu, .ref cla, .ref pic, .ref act, .int 5, .int 50, .ref nts, .ref isn, .int 1600, .ref boa, .ref mas, .ref pai, .ref sol, .int 0, .ref bal, .ref leg]⟩, rfl, (z_c_X18_noted_96 ray x y r_1 r_5 x_9 x_10 x_11 x_12 h_2 c_3 h_6 c_7 ex_9 ex_10 ex_11 ex_12), cB.mk ht hW (hP.sub [0] rfl) (hK.sub [] rfl) (hD.sub [0] (by decide) rfl) (trivial)⟩, hS.F ht⟩) hS.2.2 dX18_noted_69
    · skip
      refine lv_aload_n hx hb dX18_noted_20 rfl (lv_at hl 0 rfl) ?_
      refine lv_iconst (v := 1) hx hb dX18_noted_21 (by decide) ?_
      have hPc := (hP.app hR).sub (ws' := [(mm, .inr (24, .int 0 :: ([.ref stu, .ref cla, .ref pic, .ref act, .int 5, .int 50, .ref nts, .ref isn, .int 1600, .ref boa, .ref mas, .ref pai, .ref sol, .int 0, .ref bal, .ref leg])))] ++ []) [0] rfl
      have hDc := (en_DD hD hDr hN0 hAb).sub (ws' := [(mm, .inr (24, .int 0 :: ([.ref stu, .ref cla, .ref pic, .ref act, .int 5, .int 50, .ref nts, .ref isn, .int 1600, .ref boa, .ref mas, .ref pai, .ref sol, .int 0, .ref bal, .ref leg])))] ++ []) [0] (by decide) rfl
      have hKc := hK.sub (tys' := []) [] rfl
      have hFc := va_free (wc := [(mm, .inr (24, .int 0 :: ([.ref stu, .ref cla, .ref pic, .ref act, .int 5, .int 50, .ref nts, .ref isn, .int 1600, .ref boa, .ref mas, .ref pai, .ref sol, .int 0, .ref bal, .ref leg])))]) hD hS hA [0] rfl
      refine va_calli (va_runV (As := [.int 1]) (rest := []) ⟨hx, hb, hml, hown, hts⟩ (c_X18_fails l dC dI b0 en H.size mm 0 1 ([.ref stu, .ref cla, .ref pic, .ref act, .int 5, .int 50, .ref nts, .ref isn, .int 1600, .ref boa, .ref mas, .ref pai, .ref sol, .int 0, .ref bal, .ref leg])) (cwV 1 hts gX18_noted_X18_fails rfl rfl rfl (by decide +kernel) ⟨Nat.le_of_ble_eq_true rfl, Nat.le_of_ble_eq_true rfl⟩) ⟨cP.blind, va_recv hK hP (ci := 24) (q0 := 0) rfl rfl, cP.use (en_z hb0 hS) (hE.on hAb hS) hPc hKc hDc trivial⟩ rfl rfl hl.1 rfl (lv_room (Nat.le_of_ble_eq_true rfl)) dX18_noted_22 ⟨Nat.le_of_ble_eq_true rfl, Nat.le_of_ble_eq_true rfl⟩) hS (fun q _ h => hFc q h) hFc (fun r_16 u t H1 locs ht hvm hw hB hz1 hk1 hS => ?_)
      obtain ⟨hP1, hK1, hD1, hF1⟩ := hB
      rw [ht] at hP1
      try rw [ht] at hF1
      have hK1 := va_K.moved hvm.symm hK1
      try dsimp only at hw
      obtain ⟨hP, hD⟩ := va_join (wr := []) (w1 := [(mm, .inr (24, [.int 1, .ref stu, .ref cla, .ref pic, .ref act, .int 5, .int 50, .ref nts, .ref isn, .int 1600, .ref boa, .ref mas, .ref pai, .ref sol, .int 0, .ref bal, .ref leg]))]) hP hD [0] [] rfl rfl (by decide) (by decide) hk1 hFc hP1 hD1
      generalize H1 = H at hP hS ⊢
      have hP : va_P (dC, dI) vwCl [(mm, .inr (24, [.int 1, .ref stu, .ref cla, .ref pic, .ref act, .int 5, .int 50, .ref nts, .ref isn, .int 1600, .ref boa, .ref mas, .ref pai, .ref sol, .int 0, .ref bal, .ref leg]))] H := hP
      have hD : va_D A [(mm, .inr (24, [.int 1, .ref stu, .ref cla, .ref pic, .ref act, .int 5, .int 50, .ref nts, .ref isn, .int 1600, .ref boa, .ref mas, .ref pai, .ref sol, .int 0, .ref bal, .ref leg]))] := hD
      have hR := en_R hR0 hN0 hS
      refine W.widen (k := 0) (n := 0) (Nat.le_of_ble_eq_true rfl) (Nat.le_of_ble_eq_true rfl) ?_
      subst r_16
      refine W.widen (k := 0) (n := 0) (Nat.le_of_ble_eq_true rfl) (Nat.le_of_ble_eq_true rfl) ?_
      exact W.iret (v := 0) hx hb hr (fun t ht hW => ⟨⟨0, ⟨1, [.ref stu, .ref cla, .ref pic, .ref act, .int 5, .int 50, .ref nts, .ref isn, .int 1600, .ref boa, .ref mas, .ref pai, .ref sol, .int 0, .ref bal, .ref leg]⟩, rfl, (z_c_X18_noted_97 ray x y r_1 r_5 h_2 c_3 h_6 c_7), cB.mk ht hW (hP.sub [0] rfl) (hK.sub [] rfl) (hD.sub [0] (by decide) rfl) (trivial)⟩, hS.F ht⟩) hS.2.2 dX18_noted_25
theorem z_c_X18_isAlike_98 (pc : Int32) (a_0 : 0 ≤ pc) (a_1 : pc < 48) : (1 : Int32) = 1 := by grind
theorem z_c_X18_isAlike_99 (pc : Int32) (k_1 : Nat) (x_9 : Int32) (x_10 : Int32) (a_0 : 0 ≤ pc) (a_1 : pc < 48) (a_2 : 0 ≤ nI k_1 ∧ nI k_1 < 4) (a_3 : x_9 = 48 * (nI k_1)) (a_4 : x_10 = x_9 + pc) : 0 ≤ x_10 := by grind
theorem z_c_X18_isAlike_100 (pc : Int32) (k_1 : Nat) (x_9 : Int32) (x_10 : Int32) (a_0 : 0 ≤ pc) (a_1 : pc < 48) (a_2 : 0 ≤ nI k_1 ∧ nI k_1 < 4) (a_3 : x_9 = 48 * (nI k_1)) (a_4 : x_10 = x_9 + pc) : x_10 < 240 := by grind
set_option maxHeartbeats 4000000 in
set_option maxRecDepth 100000 in
/-- isAlike where nothing is noted -/
theorem c_X18_isAlike (l : Launch) (dC : Nat → ClassId) (dI : Nat → Nat → Nat) (b0 : Nat) (en : EnT) (sz : Nat) (mm stu cla pic act nts isn boa mas pai sol bal leg : Nat) (kB : ClassId) (pa : Nat) (pc : Int32) (h0 : 0 ≤ pc) (h1 : pc < 48) : Met l yX18_isAlike wsX18_isAlike ({ frames := 0, cells := 0, slots := 0, locals := 0 } : Room) (cP b0 en (dC, dI) [(kB, .boolean)] [] [(mm, .inr (24, [.int 0, .ref stu, .ref cla, .ref pic, .ref act, .int 5, .int 50, .ref nts, .ref isn, .int 1600, .ref boa, .ref mas, .ref pai, .ref sol, .int 0, .ref bal, .ref leg])), (isn, .inl (kB, 240, .inl (fun _ => 0)))] sz (fun _ => True) [.ref mm, .ref pa, .int pc]) (va_Qi (fun (r : Int32) (_ : Unit) => r = 1) (fun _ _ => True) (va_A [] sz)) 0 0 (va_A [] sz) := by
  refine Met.ofW (cc := cX18_isAlike) (maxL := 5) (ret := (some .boolean)) (by decide) rfl ?_
  intro p e s m args below meth c s₁ B hml hv
  obtain ⟨rfl, hsz, hb0, hE, hPP, hK, hDD, hF0⟩ := hv
  have hx := B.exec
  have hb := B.bytes
  have hr := B.returns
  have hts := atoms_spec (ws := wsX18_isAlike) B.pre
  have hown : s.vm.findClass RX18 = some m.cls := findClass_of_methodNamed B.named
  have hlocks := B.notSynchronized
  subst hsz
  have hN0 := en_N hPP hDD rfl
  have hP : va_P (dC, dI) vwCl [] s.heap := hPP.sub [] rfl
  have hR0 : va_P (dC, dI) vwCl [(mm, .inr (24, [.int 0, .ref stu, .ref cla, .ref pic, .ref act, .int 5, .int 50, .ref nts, .ref isn, .int 1600, .ref boa, .ref mas, .ref pai, .ref sol, .int 0, .ref bal, .ref leg])), (isn, .inl (kB, 240, .inl (fun _ => 0)))] s.heap := hPP.sub [0, 1] rfl
  have hD0 : va_D (fun q => b0 ≤ q) [] := hDD.sub [] (by decide) rfl
  have hDr : va_D (fun q => b0 ≤ q) [(mm, .inr (24, [.int 0, .ref stu, .ref cla, .ref pic, .ref act, .int 5, .int 50, .ref nts, .ref isn, .int 1600, .ref boa, .ref mas, .ref pai, .ref sol, .int 0, .ref bal, .ref leg])), (isn, .inl (kB, 240, .inl (fun _ => 0)))] := hDD.sub [0, 1] (by decide) rfl
  have hAb := en_A (sz := s.heap.size) hD0 hb0
  have hD := hD0.self (sz := s.heap.size)
  generalize hAe : va_A [] s.heap.size = A at hD hAb hN0 ⊢
  have hA : ∀ q : Nat, s.heap.size ≤ q → A q := fun q h => by rw [← hAe]; exact Or.inr h
  have hS : va_S A s.heap s.heap [] := va_S.rf
  have hR := hR0
  have hl := lv_entry [.ref mm, .ref pa, .int pc] (n := 5) (Nat.le_of_ble_eq_true rfl)
  rw [lg_entry_eq]
  generalize (lg_sl [.ref mm, .ref pa, .int pc] ++ List.replicate (5 - (lg_sl [.ref mm, .ref pa, .int pc]).length) Slot.unset).toArray = ls at hl ⊢
  have hl : lv_has ls 5 [(0, .ref mm), (1, .ref pa), (2, .int pc)] := hl
  refine W.gen (fun Q hQ => ?_)
  refine lv_iconst (v := 0) hx hb dX18_isAlike_0 (by decide) ?_
  refine lv_istore_n (lv' := [(3, .int 0), (0, .ref mm), (1, .ref pa), (2, .int pc)]) hx hb dX18_isAlike_1 rfl hl (by decide) rfl (fun ls hl => ?_)
  have loop_2 : ∀ (n_2 k_1 : Nat), k_1 + n_2 = 4 → ∀ (H : Heap) (locs : List Loc), va_P (dC, dI) vwCl [] H → va_D A [] → va_S A s.heap H locs → ∀ ls : Array Slot, lv_has ls 5 [(3, .int (nI k_1)), (0, .ref mm), (1, .ref pa), (2, .int pc)] → W p l e (headSpec wsX18_isAlike ({ frames := 0, cells := 0, slots := 0, locals := 0 } : Room)).room s m #[.ref mm, .ref pa, .int pc] below meth c H locs 0 0 Q (F0 m 2 ls []) := by
    intro n_2
    induction n_2 with
    | zero =>
      intro k_1 hk_3 H locs hP hD hS ls hl
      have ek_1 : k_1 = 4 := by omega
      subst ek_1
      have hl : lv_has ls 5 [(3, .int 4), (0, .ref mm), (1, .ref pa), (2, .int pc)] := hl
      have hR := en_R hR0 hN0 hS
      refine lv_iload_n hx hb dX18_isAlike_2 rfl (lv_at hl 0 rfl) ?_
      refine lv_iconst (v := 4) hx hb dX18_isAlike_3 (by decide) ?_
      refine lv_icmp_ge (tgt := 67) hx hb dX18_isAlike_4 (by decide) (fun c_5 => ?_) (fun c_5 => absurd c_5 (by decide))
      refine lv_iconst (v := 1) hx hb dX18_isAlike_67 (by decide) ?_
      subst hQ
      refine W.widen (k := 0) (n := 0) (Nat.le_of_ble_eq_true rfl) (Nat.le_of_ble_eq_true rfl) ?_
      exact W.zret (v := 1) hx hb hr (by first | rfl | decide +kernel) (fun t ht hW => ⟨⟨1, (), rfl, (z_c_X18_isAlike_98 pc h0 h1), trivial⟩, hS.F ht⟩) hS.2.2 dX18_isAlike_68
    | succ n_2 ih =>
      intro k_1 hk_3 H locs hP hD hS ls hl
      have hk_6 : k_1 < 4 := by omega
      have hb_7 : 0 ≤ nI k_1 ∧ nI k_1 < 4 := ⟨nI_le (Nat.zero_le _) (by omega), nI_lk hk_6 (by decide)⟩
      have hR := en_R hR0 hN0 hS
      refine lv_iload_n hx hb dX18_isAlike_2 rfl (lv_at hl 0 rfl) ?_
      refine lv_iconst (v := 4) hx hb dX18_isAlike_3 (by decide) ?_
      refine lv_icmp_ge (tgt := 67) hx hb dX18_isAlike_4 (by decide) (fun c_8 => ?_) (fun c_8 => ?_)
      · skip
        first | exact absurd c_8 (nI_ge hk_6 (by decide)) | exact absurd (nI_lk hk_6 (by decide)) c_8
      · skip
        refine lv_bipush (v := 48) hx hb dX18_isAlike_7 (by decide) ?_
        refine lv_iload_n hx hb dX18_isAlike_9 rfl (lv_at hl 0 rfl) ?_
        refine lv_imul hx hb dX18_isAlike_10 ?_
        refine lv_topi (fun x_9 ex_9 => ?_)
        refine lv_iload_n hx hb dX18_isAlike_11 rfl (lv_at hl 3 rfl) ?_
        refine lv_iadd hx hb dX18_isAlike_12 ?_
        refine lv_topi (fun x_10 ex_10 => ?_)
        refine lv_istore (lv' := [(4, .int x_10), (3, .int (nI k_1)), (0, .ref mm), (1, .ref pa), (2, .int pc)]) hx hb dX18_isAlike_13 hl (by decide) rfl (fun ls hl => ?_)
        refine lv_aload_n hx hb dX18_isAlike_15 rfl (lv_at hl 2 rfl) ?_
        refine va_get (D := (dC, dI)) (ci := 24) (v := .ref isn) (C := RX18) (T := TX18) (N := 17) hx hb hts (by decide +kernel) hown hK hR 0 rfl rfl 8 (by decide) (hts (.fieldLink RX18 43 "UnderpaintModel" "isNoted" "[Z") (by decide +kernel)) (fun _ h9 => h9) rfl dX18_isAlike_16 ?_
        refine lv_iload hx hb dX18_isAlike_19 (lv_at hl 0 rfl) ?_
        refine va_zald hx hb hK hR 1 0 rfl rfl (vp_ok (n := 240) (by decide) (z_c_X18_isAlike_99 pc k_1 x_9 x_10 h0 h1 hb_7 ex_9 ex_10) (z_c_X18_isAlike_100 pc k_1 x_9 x_10 h0 h1 hb_7 ex_9 ex_10)) dX18_isAlike_21 ?_
        refine lv_topi (fun x_11 ex_11 => ?_)
        obtain rfl : x_11 = 0 := ex_11.trans rfl
        refine lv_if_eq (tgt := 61) hx hb dX18_isAlike_22 (by decide) (fun c_12 => ?_) (fun c_12 => absurd c_12 (by decide))
        obtain ⟨x_13, ex_13⟩ : ∃ y : Int32, y = (nI k_1) + 1 := ⟨_, rfl⟩
        refine lv_iinc (v := x_13) (lv' := [(3, .int x_13), (4, .int x_10), (0, .ref mm), (1, .ref pa), (2, .int pc)]) hx hb dX18_isAlike_61 hl (k := 1) rfl (by rw [ex_13]; rfl) (by decide) rfl (fun ls hl => ?_)
        have hy : x_13 = nI (k_1 + 1) := by rw [ex_13]; exact nI_1 k_1
        subst hy
        refine lv_goto (tgt := 2) hx hb dX18_isAlike_64 (by decide) ?_
        exact ih (k_1 + 1) (by omega)  _ _ hP hD hS _ (lv_sub hl [0, 2, 3, 4] rfl)
  exact loop_2 4 0 rfl  _ _ hP hD hS ls (lv_sub hl [0, 1, 2, 3] rfl)
theorem z_c_X18_isPossible_101 (x : Int32) (y : Int32) (r_1 : Int32) (x_4 : Int32) (x_5 : Int32) (a_0 : r_1 = if (0 ≤ x ∧ x < 8) ∧ (0 ≤ y ∧ y < 6) then 1 else 0) (a_1 : ¬ r_1 = 0) (a_2 : x_4 = 8 * y) (a_3 : x_5 = x_4 + x) : 0 ≤ x_5 := by grind
theorem z_c_X18_isPossible_102 (x : Int32) (y : Int32) (r_1 : Int32) (x_4 : Int32) (x_5 : Int32) (a_0 : r_1 = if (0 ≤ x ∧ x < 8) ∧ (0 ≤ y ∧ y < 6) then 1 else 0) (a_1 : ¬ r_1 = 0) (a_2 : x_4 = 8 * y) (a_3 : x_5 = x_4 + x) : x_5 < 48 := by grind
theorem z_c_X18_isPossible_103 (x : Int32) (y : Int32) (r_1 : Int32) (x_4 : Int32) (x_5 : Int32) (x_8 : Int32) (x_9 : Int32) (a_0 : r_1 = if (0 ≤ x ∧ x < 8) ∧ (0 ≤ y ∧ y < 6) then 1 else 0) (a_1 : ¬ r_1 = 0) (a_2 : x_4 = 8 * y) (a_3 : x_5 = x_4 + x) (a_4 : x_8 = 8 * y) (a_5 : x_9 = x_8 + x) : 0 ≤ x_9 := by grind
theorem z_c_X18_isPossible_104 (x : Int32) (y : Int32) (r_1 : Int32) (x_4 : Int32) (x_5 : Int32) (x_8 : Int32) (x_9 : Int32) (a_0 : r_1 = if (0 ≤ x ∧ x < 8) ∧ (0 ≤ y ∧ y < 6) then 1 else 0) (a_1 : ¬ r_1 = 0) (a_2 : x_4 = 8 * y) (a_3 : x_5 = x_4 + x) (a_4 : x_8 = 8 * y) (a_5 : x_9 = x_8 + x) : x_9 < 48 := by grind
theorem z_c_X18_isPossible_105 (x : Int32) (y : Int32) (r_1 : Int32) (x_4 : Int32) (x_5 : Int32) (x_8 : Int32) (x_9 : Int32) (a_0 : r_1 = if (0 ≤ x ∧ x < 8) ∧ (0 ≤ y ∧ y < 6) then 1 else 0) (a_1 : ¬ r_1 = 0) (a_2 : x_4 = 8 * y) (a_3 : x_5 = x_4 + x) (a_4 : x_8 = 8 * y) (a_5 : x_9 = x_8 + x) : ((0 : Int32) = 0 ∧ (1 : Int32) = 1 ∧ (0 ≤ x ∧ x < 8) ∧ (0 ≤ y ∧ y < 6)) ∨ ((0 : Int32) = 1 ∧ ¬ ((0 ≤ x ∧ x < 8) ∧ (0 ≤ y ∧ y < 6))) := by grind
theorem z_c_X18_isPossible_106 (x : Int32) (y : Int32) (r_1 : Int32) (a_0 : r_1 = if (0 ≤ x ∧ x < 8) ∧ (0 ≤ y ∧ y < 6) then 1 else 0) (a_1 : r_1 = 0) : ((1 : Int32) = 0 ∧ (0 : Int32) = 1 ∧ (0 ≤ x ∧ x < 8) ∧ (0 ≤ y ∧ y < 6)) ∨ ((1 : Int32) = 1 ∧ ¬ ((0 ≤ x ∧ x < 8) ∧ (0 ≤ y ∧ y < 6))) := by grind
set_option maxHeartbeats 4000000 in
set_option maxRecDepth 100000 in
theorem c_X18_isPossible (l : Launch) (dC : Nat → ClassId) (dI : Nat → Nat → Nat) (b0 : Nat) (en : EnT) (sz : Nat) (mm stu cla pic act nts isn boa mas pai sol bal leg : Nat) (ap scr : Nat) (g : Nat → Option Nat) (kP : ClassId) (N : Nat → Prop) (kB : ClassId) (x y : Int32) (hNb : ∀ a, N a → b0 ≤ a ∧ a < sz) (hNw : ∀ a, N a → a ∉ List.map Prod.fst ([(mm, .inr (24, [.int 0, .ref stu, .ref cla, .ref pic, .ref act, .int 5, .int 50, .ref nts, .ref isn, .int 1600, .ref boa, .ref mas, .ref pai, .ref sol, .int 0, .ref bal, .ref leg]))] : va_W)) (hNr : ∀ a, N a → a ∉ List.map Prod.fst ([(pic, .inr (20, [.ref ap, .ref scr, .int 1600, .int 0, .int 0, .ref mm])), (ap, .inl (kP, 48, .inr (.inr (.inr (.inr g))))), (isn, .inl (kB, 240, .inl (fun _ => 0)))] : va_W)) : Met l yX18_isPossible wsX18_isPossible ({ frames := 2, cells := 0, slots := 0, locals := 43 } : Room) (cP b0 en (dC, dI) [(kP, .object "UnderpaintModel$Place"), (kB, .boolean)] [(mm, .inr (24, [.int 0, .ref stu, .ref cla, .ref pic, .ref act, .int 5, .int 50, .ref nts, .ref isn, .int 1600, .ref boa, .ref mas, .ref pai, .ref sol, .int 0, .ref bal, .ref leg]))] [(pic, .inr (20, [.ref ap, .ref scr, .int 1600, .int 0, .int 0, .ref mm])), (ap, .inl (kP, 48, .inr (.inr (.inr (.inr g))))), (isn, .inl (kB, 240, .inl (fun _ => 0)))] sz (FamP (dC, dI) N en.2.2.1 g) [.ref mm, .int x, .int y]) (va_Qi (fun (r : Int32) (u : Int32 × List Value) => (u.1 = 0 ∧ r = 1 ∧ (0 ≤ x ∧ x < 8) ∧ (0 ≤ y ∧ y < 6)) ∨ (u.1 = 1 ∧ ¬ ((0 ≤ x ∧ x < 8) ∧ (0 ≤ y ∧ y < 6)))) (fun u t => cB (dC, dI) [] [(mm, .inr (24, .int u.1 :: u.2))] (va_A [(mm, .inr (24, [.int 0, .ref stu, .ref cla, .ref pic, .ref act, .int 5, .int 50, .ref nts, .ref isn, .int 1600, .ref boa, .ref mas, .ref pai, .ref sol, .int 0, .ref bal, .ref leg]))] sz) (fun _ => True) t) (va_A [(mm, .inr (24, [.int 0, .ref stu, .ref cla, .ref pic, .ref act, .int 5, .int 50, .ref nts, .ref isn, .int 1600, .ref boa, .ref mas, .ref pai, .ref sol, .int 0, .ref bal, .ref leg]))] sz)) 0 0 (va_A [(mm, .inr (24, [.int 0, .ref stu, .ref cla, .ref pic, .ref act, .int 5, .int 50, .ref nts, .ref isn, .int 1600, .ref boa, .ref mas, .ref pai, .ref sol, .int 0, .ref bal, .ref leg]))] sz) := by
  refine Met.ofW (cc := cX18_isPossible) (maxL := 3) (ret := (some .boolean)) (by decide) rfl ?_
  intro p e s m args below meth c s₁ B hml hv
  obtain ⟨rfl, hsz, hb0, hE, hPP, hK, hDD, hF0⟩ := hv
  have hx := B.exec
  have hb := B.bytes
  have hr := B.returns
  have hts := atoms_spec (ws := wsX18_isPossible) B.pre
  have hown : s.vm.findClass RX18 = some m.cls := findClass_of_methodNamed B.named
  have hlocks := B.notSynchronized
  subst hsz
  have hN0 := en_N hPP hDD rfl
  have hP : va_P (dC, dI) vwCl [(mm, .inr (24, [.int 0, .ref stu, .ref cla, .ref pic, .ref act, .int 5, .int 50, .ref nts, .ref isn, .int 1600, .ref boa, .ref mas, .ref pai, .ref sol, .int 0, .ref bal, .ref leg]))] s.heap := hPP.sub [0] rfl
  have hR0 : va_P (dC, dI) vwCl [(pic, .inr (20, [.ref ap, .ref scr, .int 1600, .int 0, .int 0, .ref mm])), (ap, .inl (kP, 48, .inr (.inr (.inr (.inr g))))), (isn, .inl (kB, 240, .inl (fun _ => 0)))] s.heap := hPP.sub [1, 2, 3] rfl
  have hD0 : va_D (fun q => b0 ≤ q) [(mm, .inr (24, [.int 0, .ref stu, .ref cla, .ref pic, .ref act, .int 5, .int 50, .ref nts, .ref isn, .int 1600, .ref boa, .ref mas, .ref pai, .ref sol, .int 0, .ref bal, .ref leg]))] := hDD.sub [0] (by decide) rfl
  have hDr : va_D (fun q => b0 ≤ q) [(pic, .inr (20, [.ref ap, .ref scr, .int 1600, .int 0, .int 0, .ref mm])), (ap, .inl (kP, 48, .inr (.inr (.inr (.inr g))))), (isn, .inl (kB, 240, .inl (fun _ => 0)))] := hDD.sub [1, 2, 3] (by decide) rfl
  have hAb := en_A (sz := s.heap.size) hD0 hb0
  have hD := hD0.self (sz := s.heap.size)
  generalize hAe : va_A [(mm, .inr (24, [.int 0, .ref stu, .ref cla, .ref pic, .ref act, .int 5, .int 50, .ref nts, .ref isn, .int 1600, .ref boa, .ref mas, .ref pai, .ref sol, .int 0, .ref bal, .ref leg]))] s.heap.size = A at hD hAb hN0 ⊢
  have hA : ∀ q : Nat, s.heap.size ≤ q → A q := fun q h => by rw [← hAe]; exact Or.inr h
  have hS : va_S A s.heap s.heap [] := va_S.rf
  have hR := hR0
  have hl := lv_entry [.ref mm, .int x, .int y] (n := 3) (Nat.le_of_ble_eq_true rfl)
  rw [lg_entry_eq]
  generalize (lg_sl [.ref mm, .int x, .int y] ++ List.replicate (3 - (lg_sl [.ref mm, .int x, .int y]).length) Slot.unset).toArray = ls at hl ⊢
  have hl : lv_has ls 3 [(0, .ref mm), (1, .int x), (2, .int y)] := hl
  have hR0b := hR0
  have hDrb := hDr
  have hN0b := hN0
  refine lv_iload_n hx hb dX18_isPossible_0 rfl (lv_at hl 1 rfl) ?_
  refine lv_iload_n hx hb dX18_isPossible_1 rfl (lv_at hl 2 rfl) ?_
  have hPc := (hP.app hR).sub (ws' := [] ++ []) [] rfl
  have hDc := (en_DD hD hDr hN0 hAb).sub (ws' := [] ++ []) [] (by decide) rfl
  have hKc := hK.sub (tys' := []) [] rfl
  have hFc := va_free (wc := []) hD hS hA [] rfl
  refine va_calli (va_runS (As := [.int x, .int y]) (rest := []) ⟨hx, hb, hml, hown, hts⟩ (c_X18_isPlace l dC dI b0 en s.heap.size x y) (va_cwS 2 hts gX18_isPossible_X18_isPlace rfl rfl rfl (by decide +kernel) ⟨Nat.le_of_ble_eq_true rfl, Nat.le_of_ble_eq_true rfl⟩) ⟨cP.blind, cP.use (en_z hb0 hS) (hE.on hAb hS) hPc hKc hDc trivial⟩ rfl rfl hl.1 rfl (lv_room (Nat.le_of_ble_eq_true rfl)) dX18_isPossible_2 ⟨Nat.le_of_ble_eq_true rfl, Nat.le_of_ble_eq_true rfl⟩) hS (fun q _ h => hFc q h) hFc (fun r_1 u t H1 locs ht hvm hw hB hz1 hk1 hS => ?_)
  have hP1 : va_P (dC, dI) vwCl [] H1 := fun k q h => by simp at h
  have hD1 : va_D (va_A [] s.heap.size) [] := ⟨fun i j p q h => by simp at h, fun k q h => by simp at h⟩
  try dsimp only at hw
  obtain ⟨hP, hD⟩ := va_join (wr := [(mm, .inr (24, [.int 0, .ref stu, .ref cla, .ref pic, .ref act, .int 5, .int 50, .ref nts, .ref isn, .int 1600, .ref boa, .ref mas, .ref pai, .ref sol, .int 0, .ref bal, .ref leg]))]) (w1 := []) hP hD [] [0] rfl rfl (by decide) (by decide) hk1 hFc hP1 hD1
  generalize H1 = H at hP hS ⊢
  have hP : va_P (dC, dI) vwCl [(mm, .inr (24, [.int 0, .ref stu, .ref cla, .ref pic, .ref act, .int 5, .int 50, .ref nts, .ref isn, .int 1600, .ref boa, .ref mas, .ref pai, .ref sol, .int 0, .ref bal, .ref leg]))] H := hP
  have hD : va_D A [(mm, .inr (24, [.int 0, .ref stu, .ref cla, .ref pic, .ref act, .int 5, .int 50, .ref nts, .ref isn, .int 1600, .ref boa, .ref mas, .ref pai, .ref sol, .int 0, .ref bal, .ref leg]))] := hD
  have hR := en_R hR0 hN0 hS
  refine W.widen (k := 0) (n := 0) (Nat.le_of_ble_eq_true rfl) (Nat.le_of_ble_eq_true rfl) ?_
  have h_2 := hw
  refine lv_if_ne (tgt := 14) hx hb dX18_isPossible_5 (by decide) (fun c_3 => ?_) (fun c_3 => ?_)
  · skip
    refine lv_aload_n hx hb dX18_isPossible_14 rfl (lv_at hl 0 rfl) ?_
    refine lv_iconst (v := 0) hx hb dX18_isPossible_15 (by decide) ?_
    refine va_put (D := (dC, dI)) (ci := 24) (v := .int 0) (ty := .int) (C := RX18) (T := TX18) (N := 17) hx hb hts (by decide +kernel) tyX18 tyX18_ok nmX18 hown hK hP hD hS 0 rfl rfl 0 (by decide) (hts (.fieldLink RX18 67 "UnderpaintModel" "code" "I") (by decide +kernel)) (fun _ h9 => h9) rfl (by decide +kernel) rfl rfl (Nat.le_of_ble_eq_true rfl) dX18_isPossible_16 (fun H locs hP hD hS => ?_)
    have hP : va_P (dC, dI) vwCl [(mm, .inr (24, [.int 0, .ref stu, .ref cla, .ref pic, .ref act, .int 5, .int 50, .ref nts, .ref isn, .int 1600, .ref boa, .ref mas, .ref pai, .ref sol, .int 0, .ref bal, .ref leg]))] H := hP
    have hD : va_D A [(mm, .inr (24, [.int 0, .ref stu, .ref cla, .ref pic, .ref act, .int 5, .int 50, .ref nts, .ref isn, .int 1600, .ref boa, .ref mas, .ref pai, .ref sol, .int 0, .ref bal, .ref leg]))] := hD
    have hR := en_R hR0 hN0 hS
    refine lv_aload_n hx hb dX18_isPossible_19 rfl (lv_at hl 0 rfl) ?_
    refine lv_aload_n hx hb dX18_isPossible_20 rfl (lv_at hl 0 rfl) ?_
    refine va_get (D := (dC, dI)) (ci := 24) (v := .ref pic) (C := RX18) (T := TX18) (N := 17) hx hb hts (by decide +kernel) hown hK hP 0 rfl rfl 3 (by decide) (hts (.fieldLink RX18 25 "UnderpaintModel" "picture" "LUnderpaintModel$Picture;") (by decide +kernel)) (fun _ h9 => h9) rfl dX18_isPossible_21 ?_
    refine va_getN (D := (dC, dI)) (ci := 20) (v := .ref ap) (C := RX14) (T := TX14) (N := 6) hx hb hts (by decide +kernel) hown hK hR 0 rfl rfl 0 (by decide) (va_Nw.use rfl (hE.nf ("UnderpaintModel", 137, "UnderpaintModel$Picture", "at", "[LUnderpaintModel$Place;", "UnderpaintModel") (by decide +kernel))) (fun _ h9 => h9) rfl dX18_isPossible_24 ?_
    refine lv_bipush (v := 8) hx hb dX18_isPossible_27 (by decide) ?_
    refine lv_iload_n hx hb dX18_isPossible_29 rfl (lv_at hl 2 rfl) ?_
    refine lv_imul hx hb dX18_isPossible_30 ?_
    refine lv_topi (fun x_4 ex_4 => ?_)
    refine lv_iload_n hx hb dX18_isPossible_31 rfl (lv_at hl 1 rfl) ?_
    refine lv_iadd hx hb dX18_isPossible_32 ?_
    refine lv_topi (fun x_5 ex_5 => ?_)
    obtain ⟨i_6, hi_i_6, hx_i_6⟩ := (ix48 (z_c_X18_isPossible_101 x y r_1 x_4 x_5 h_2 c_3 ex_4 ex_5) (z_c_X18_isPossible_102 x y r_1 x_4 x_5 h_2 c_3 ex_4 ex_5))
    refine va_aldq hx hb hK hR 1 0 rfl rfl (pl_in hi_i_6 hx_i_6) dX18_isPossible_33 ?_
    obtain ⟨ap_7, lp_7, hgp_7, hup_7, hvp_7, hnp_7, hmp_7, hdp_7⟩ := hF0 i_6 hi_i_6
    refine lv_topv (w := .ref ap_7) (by rw [pl_cl hi_i_6 hx_i_6, hgp_7]; rfl) ?_
    have hxp_7 : ¬ A ap_7 := by rw [← hAe]; exact vA1 (ws := [(mm, .inr (24, [.int 0, .ref stu, .ref cla, .ref pic, .ref act, .int 5, .int 50, .ref nts, .ref isn, .int 1600, .ref boa, .ref mas, .ref pai, .ref sol, .int 0, .ref bal, .ref leg]))]) hup_7.lt (hNw ap_7 hnp_7)
    have hyp_7 : ¬ A lp_7 := by rw [← hAe]; exact vA1 (ws := [(mm, .inr (24, [.int 0, .ref stu, .ref cla, .ref pic, .ref act, .int 5, .int 50, .ref nts, .ref isn, .int 1600, .ref boa, .ref mas, .ref pai, .ref sol, .int 0, .ref bal, .ref leg]))]) hvp_7.lt (hNw lp_7 hmp_7)
    refine lv_bipush (v := 8) hx hb dX18_isPossible_34 (by decide) ?_
    refine lv_iload_n hx hb dX18_isPossible_36 rfl (lv_at hl 2 rfl) ?_
    refine lv_imul hx hb dX18_isPossible_37 ?_
    refine lv_topi (fun x_8 ex_8 => ?_)
    refine lv_iload_n hx hb dX18_isPossible_38 rfl (lv_at hl 1 rfl) ?_
    refine lv_iadd hx hb dX18_isPossible_39 ?_
    refine lv_topi (fun x_9 ex_9 => ?_)
    have hPc := (hP.app hR).sub (ws' := [] ++ [(mm, .inr (24, [.int 0, .ref stu, .ref cla, .ref pic, .ref act, .int 5, .int 50, .ref nts, .ref isn, .int 1600, .ref boa, .ref mas, .ref pai, .ref sol, .int 0, .ref bal, .ref leg])), (isn, .inl (kB, 240, .inl (fun _ => 0)))]) [0, 3] rfl
    have hDc := (en_DD hD hDr hN0 hAb).sub (ws' := [] ++ [(mm, .inr (24, [.int 0, .ref stu, .ref cla, .ref pic, .ref act, .int 5, .int 50, .ref nts, .ref isn, .int 1600, .ref boa, .ref mas, .ref pai, .ref sol, .int 0, .ref bal, .ref leg])), (isn, .inl (kB, 240, .inl (fun _ => 0)))]) [0, 3] (by decide) rfl
    have hKc := hK.sub (tys' := [(kB, .boolean)]) [1] rfl
    have hFc := va_free (wc := []) hD hS hA [] rfl
    refine va_calli (va_runV (As := [.ref ap_7, .int x_9]) (rest := []) ⟨hx, hb, hml, hown, hts⟩ (c_X18_isAlike l dC dI b0 en H.size mm stu cla pic act nts isn boa mas pai sol bal leg kB ap_7 x_9 (z_c_X18_isPossible_103 x y r_1 x_4 x_5 x_8 x_9 h_2 c_3 ex_4 ex_5 ex_8 ex_9) (z_c_X18_isPossible_104 x y r_1 x_4 x_5 x_8 x_9 h_2 c_3 ex_4 ex_5 ex_8 ex_9)) (cwV 2 hts gX18_isPossible_X18_isAlike rfl rfl rfl (by decide +kernel) ⟨Nat.le_of_ble_eq_true rfl, Nat.le_of_ble_eq_true rfl⟩) ⟨cP.blind, va_recv hK hP (ci := 24) (q0 := 0) rfl rfl, cP.use (en_z hb0 hS) (hE.on hAb hS) hPc hKc hDc trivial⟩ rfl rfl hl.1 rfl (lv_room (Nat.le_of_ble_eq_true rfl)) dX18_isPossible_40 ⟨Nat.le_of_ble_eq_true rfl, Nat.le_of_ble_eq_true rfl⟩) hS (fun q _ h => hFc q h) hFc (fun r_10 u t H1 locs ht hvm hw hB hz1 hk1 hS => ?_)
    have hP1 : va_P (dC, dI) vwCl [] H1 := fun k q h => by simp at h
    have hD1 : va_D (va_A [] H.size) [] := ⟨fun i j p q h => by simp at h, fun k q h => by simp at h⟩
    try dsimp only at hw
    obtain ⟨hP, hD⟩ := va_join (wr := [(mm, .inr (24, [.int 0, .ref stu, .ref cla, .ref pic, .ref act, .int 5, .int 50, .ref nts, .ref isn, .int 1600, .ref boa, .ref mas, .ref pai, .ref sol, .int 0, .ref bal, .ref leg]))]) (w1 := []) hP hD [] [0] rfl rfl (by decide) (by decide) hk1 hFc hP1 hD1
    generalize H1 = H at hP hS ⊢
    have hP : va_P (dC, dI) vwCl [(mm, .inr (24, [.int 0, .ref stu, .ref cla, .ref pic, .ref act, .int 5, .int 50, .ref nts, .ref isn, .int 1600, .ref boa, .ref mas, .ref pai, .ref sol, .int 0, .ref bal, .ref leg]))] H := hP
    have hD : va_D A [(mm, .inr (24, [.int 0, .ref stu, .ref cla, .ref pic, .ref act, .int 5, .int 50, .ref nts, .ref isn, .int 1600, .ref boa, .ref mas, .ref pai, .ref sol, .int 0, .ref bal, .ref leg]))] := hD
    have hR := en_R hR0 hN0 hS
    refine W.widen (k := 0) (n := 0) (Nat.le_of_ble_eq_true rfl) (Nat.le_of_ble_eq_true rfl) ?_
    subst r_10
    refine W.widen (k := 0) (n := 0) (Nat.le_of_ble_eq_true rfl) (Nat.le_of_ble_eq_true rfl) ?_
    exact W.zret (v := 1) hx hb hr (by first | rfl | decide +kernel) (fun t ht hW => ⟨⟨1, ⟨0, [.ref stu, .ref cla, .ref pic, .ref act, .int 5, .int 50, .ref nts, .ref isn, .int 1600, .ref boa, .ref mas, .ref pai, .ref sol, .int 0, .ref bal, .ref leg]⟩, rfl, (z_c_X18_isPossible_105 x y r_1 x_4 x_5 x_8 x_9 h_2 c_3 ex_4 ex_5 ex_8 ex_9), cB.mk ht hW (hP.sub [0] rfl) (hK.sub [] rfl) (hD.sub [0] (by decide) rfl) (trivial)⟩, hS.F ht⟩) hS.2.2 dX18_isPossible_43
  · skip
    refine lv_aload_n hx hb dX18_isPossible_8 rfl (lv_at hl 0 rfl) ?_
    refine lv_iconst (v := 1) hx hb dX18_isPossible_9 (by decide) ?_
    have hPc := (hP.app hR).sub (ws' := [(mm, .inr (24, .int 0 :: ([.ref stu, .ref cla, .ref pic, .ref act, .int 5, .int 50, .ref nts, .ref isn, .int 1600, .ref boa, .ref mas, .ref pai, .ref sol, .int 0, .ref bal, .ref leg])))] ++ []) [0] rfl
    have hDc := (en_DD hD hDr hN0 hAb).sub (ws' := [(mm, .inr (24, .int 0 :: ([.ref stu, .ref cla, .ref pic, .ref act, .int 5, .int 50, .ref nts, .ref isn, .int 1600, .ref boa, .ref mas, .ref pai, .ref sol, .int 0, .ref bal, .ref leg])))] ++ []) [0] (by decide) rfl
    have hKc := hK.sub (tys' := []) [] rfl
    have hFc := va_free (wc := [(mm, .inr (24, .int 0 :: ([.ref stu, .ref cla, .ref pic, .ref act, .int 5, .int 50, .ref nts, .ref isn, .int 1600, .ref boa, .ref mas, .ref pai, .ref sol, .int 0, .ref bal, .ref leg])))]) hD hS hA [0] rfl
    refine va_calli (va_runV (As := [.int 1]) (rest := []) ⟨hx, hb, hml, hown, hts⟩ (c_X18_failsBoolean l dC dI b0 en H.size mm 0 1 ([.ref stu, .ref cla, .ref pic, .ref act, .int 5, .int 50, .ref nts, .ref isn, .int 1600, .ref boa, .ref mas, .ref pai, .ref sol, .int 0, .ref bal, .ref leg])) (cwV 1 hts gX18_isPossible_X18_failsBoolean rfl rfl rfl (by decide +kernel) ⟨Nat.le_of_ble_eq_true rfl, Nat.le_of_ble_eq_true rfl⟩) ⟨cP.blind, va_recv hK hP (ci := 24) (q0 := 0) rfl rfl, cP.use (en_z hb0 hS) (hE.on hAb hS) hPc hKc hDc trivial⟩ rfl rfl hl.1 rfl (lv_room (Nat.le_of_ble_eq_true rfl)) dX18_isPossible_10 ⟨Nat.le_of_ble_eq_true rfl, Nat.le_of_ble_eq_true rfl⟩) hS (fun q _ h => hFc q h) hFc (fun r_11 u t H1 locs ht hvm hw hB hz1 hk1 hS => ?_)
    obtain ⟨hP1, hK1, hD1, hF1⟩ := hB
    rw [ht] at hP1
    try rw [ht] at hF1
    have hK1 := va_K.moved hvm.symm hK1
    try dsimp only at hw
    obtain ⟨hP, hD⟩ := va_join (wr := []) (w1 := [(mm, .inr (24, [.int 1, .ref stu, .ref cla, .ref pic, .ref act, .int 5, .int 50, .ref nts, .ref isn, .int 1600, .ref boa, .ref mas, .ref pai, .ref sol, .int 0, .ref bal, .ref leg]))]) hP hD [0] [] rfl rfl (by decide) (by decide) hk1 hFc hP1 hD1
    generalize H1 = H at hP hS ⊢
    have hP : va_P (dC, dI) vwCl [(mm, .inr (24, [.int 1, .ref stu, .ref cla, .ref pic, .ref act, .int 5, .int 50, .ref nts, .ref isn, .int 1600, .ref boa, .ref mas, .ref pai, .ref sol, .int 0, .ref bal, .ref leg]))] H := hP
    have hD : va_D A [(mm, .inr (24, [.int 1, .ref stu, .ref cla, .ref pic, .ref act, .int 5, .int 50, .ref nts, .ref isn, .int 1600, .ref boa, .ref mas, .ref pai, .ref sol, .int 0, .ref bal, .ref leg]))] := hD
    have hR := en_R hR0 hN0 hS
    refine W.widen (k := 0) (n := 0) (Nat.le_of_ble_eq_true rfl) (Nat.le_of_ble_eq_true rfl) ?_
    subst r_11
    refine W.widen (k := 0) (n := 0) (Nat.le_of_ble_eq_true rfl) (Nat.le_of_ble_eq_true rfl) ?_
    exact W.zret (v := 0) hx hb hr (by first | rfl | decide +kernel) (fun t ht hW => ⟨⟨0, ⟨1, [.ref stu, .ref cla, .ref pic, .ref act, .int 5, .int 50, .ref nts, .ref isn, .int 1600, .ref boa, .ref mas, .ref pai, .ref sol, .int 0, .ref bal, .ref leg]⟩, rfl, (z_c_X18_isPossible_106 x y r_1 h_2 c_3), cB.mk ht hW (hP.sub [0] rfl) (hK.sub [] rfl) (hD.sub [0] (by decide) rfl) (trivial)⟩, hS.F ht⟩) hS.2.2 dX18_isPossible_13

set_option maxHeartbeats 4000000 in
set_option maxRecDepth 100000 in
/-- possible: no stuff, no guess -/
theorem c_X18_possible (l : Launch) (dC : Nat → ClassId) (dI : Nat → Nat → Nat) (b0 : Nat) (en : EnT) (sz : Nat) (mm stu cla pic act nts isn boa mas pai sol bal leg : Nat) (pc : Int32) : Met l yX18_possible wsX18_possible ({ frames := 4, cells := 2, slots := 3, locals := 90 } : Room) (cP b0 en (dC, dI) [] [] [(mm, .inr (24, [.int 0, .ref stu, .ref cla, .ref pic, .ref act, .int 5, .int 50, .ref nts, .ref isn, .int 1600, .ref boa, .ref mas, .ref pai, .ref sol, .int 0, .ref bal, .ref leg])), (stu, .inr (5, [.int 0, .ref en.2.2.1, .int 0]))] sz (fun _ => True) [.ref mm, .int pc]) (va_Qr (fun u : Unit => True) (fun u r t => cB (dC, dI) [] [(r, .inr (5, [.int 0, .ref en.2.2.1, .int 0]))] (va_A [] sz) (fun _ => True) t) (va_A [] sz)) 2 3 (va_A [] sz) := by
  refine Met.ofW (cc := cX18_possible) (maxL := 12) (ret := (some (.object "java/util/List"))) (by decide) rfl ?_
  intro p e s m args below meth c s₁ B hml hv
  obtain ⟨rfl, hsz, hb0, hE, hPP, hK, hDD, hF0⟩ := hv
  have hx := B.exec
  have hb := B.bytes
  have hr := B.returns
  have hts := atoms_spec (ws := wsX18_possible) B.pre
  have hown : s.vm.findClass RX18 = some m.cls := findClass_of_methodNamed B.named
  have hlocks := B.notSynchronized
  subst hsz
  have hN0 := en_N hPP hDD rfl
  have hP : va_P (dC, dI) vwCl [] s.heap := hPP.sub [] rfl
  have hR0 : va_P (dC, dI) vwCl [(mm, .inr (24, [.int 0, .ref stu, .ref cla, .ref pic, .ref act, .int 5, .int 50, .ref nts, .ref isn, .int 1600, .ref boa, .ref mas, .ref pai, .ref sol, .int 0, .ref bal, .ref leg])), (stu, .inr (5, [.int 0, .ref en.2.2.1, .int 0]))] s.heap := hPP.sub [0, 1] rfl
  have hD0 : va_D (fun q => b0 ≤ q) [] := hDD.sub [] (by decide) rfl
  have hDr : va_D (fun q => b0 ≤ q) [(mm, .inr (24, [.int 0, .ref stu, .ref cla, .ref pic, .ref act, .int 5, .int 50, .ref nts, .ref isn, .int 1600, .ref boa, .ref mas, .ref pai, .ref sol, .int 0, .ref bal, .ref leg])), (stu, .inr (5, [.int 0, .ref en.2.2.1, .int 0]))] := hDD.sub [0, 1] (by decide) rfl
  have hAb := en_A (sz := s.heap.size) hD0 hb0
  have hD := hD0.self (sz := s.heap.size)
  generalize hAe : va_A [] s.heap.size = A at hD hAb hN0 ⊢
  have hA : ∀ q : Nat, s.heap.size ≤ q → A q := fun q h => by rw [← hAe]; exact Or.inr h
  have hS : va_S A s.heap s.heap [] := va_S.rf
  have hR := hR0
  have hl := lv_entry [.ref mm, .int pc] (n := 12) (Nat.le_of_ble_eq_true rfl)
  rw [lg_entry_eq]
  generalize (lg_sl [.ref mm, .int pc] ++ List.replicate (12 - (lg_sl [.ref mm, .int pc]).length) Slot.unset).toArray = ls at hl ⊢
  have hl : lv_has ls 12 [(0, .ref mm), (1, .int pc)] := hl
  refine va_new (ci := 5) (fs := [.int 0, .null, .int 0]) (C := RJx4a65c) (T := TJx4a65c) (N := 3) hx hb hts (by decide +kernel) tyJx4a65c tyJx4a65c_ok hown (hts (.classLink RX18 7 RJx4a65c) (by decide +kernel)) (hts (.instantiable RJx4a65c 3) (by decide +kernel)) (hts (.initialized RJx4a65c) (by decide +kernel)) hK hP hD hS hA rfl (fun j hj => by rcases (show j = 0 ∨ j = 1 ∨ j = 2 by omega) with rfl | rfl | rfl <;> rfl) (Nat.le_of_ble_eq_true rfl) (Nat.le_of_ble_eq_true rfl) dX18_possible_0 (fun q_1 H hP hD hS => ?_)
  have hP : va_P (dC, dI) vwCl [(q_1, .inr (5, [.int 0, .null, .int 0]))] H := hP
  have hD : va_D A [(q_1, .inr (5, [.int 0, .null, .int 0]))] := hD
  have hR := en_R hR0 hN0 hS
  refine W.widen (k := 1) (n := 3) (Nat.le_of_ble_eq_true rfl) (Nat.le_of_ble_eq_true rfl) ?_
  refine lv_dup hx hb dX18_possible_3 rfl ?_
  have hPc := (hP.app hR).sub (ws' := [(q_1, .inr (5, [.int 0, .null, .int 0]))] ++ []) [0] rfl
  have hDc := (en_DD hD hDr hN0 hAb).sub (ws' := [(q_1, .inr (5, [.int 0, .null, .int 0]))] ++ []) [0] (by decide) rfl
  have hKc := hK.sub (tys' := []) [] rfl
  have hFc := va_free (wc := [(q_1, .inr (5, [.int 0, .null, .int 0]))]) hD hS hA [0] rfl
  refine va_callv (va_runI (As := []) (rest := [.ref q_1]) ⟨hx, hb, hml, hown, hts⟩ (c_AList l dC dI b0 en H.size q_1) (cwI 0 hts gX18_possible_Jx4a65c_init_da8c8 rfl rfl rfl (hts (.initialized RJx4a65c) (by decide +kernel)) (hts (.methodLink RX18 9 yJx4a65c_init_da8c8) (by decide +kernel)) (hts (.instanceMethod yJx4a65c_init_da8c8) (by decide +kernel)) rfl (by decide +kernel) ⟨Nat.le_of_ble_eq_true rfl, Nat.le_of_ble_eq_true rfl⟩) ⟨cP.blind, cP.use (en_z hb0 hS) (hE.on hAb hS) hPc hKc hDc trivial⟩ rfl rfl hl.1 rfl (lv_room (Nat.le_of_ble_eq_true rfl)) dX18_possible_4 ⟨Nat.le_of_ble_eq_true rfl, Nat.le_of_ble_eq_true rfl⟩) hS (fun q _ h => hFc q h) hFc (fun u t H1 locs ht hvm hw hB hz1 hk1 hS => ?_)
  obtain ⟨hP1, hK1, hD1, hF1⟩ := hB
  rw [ht] at hP1
  try rw [ht] at hF1
  have hK1 := va_K.moved hvm.symm hK1
  try dsimp only at hw
  obtain ⟨hP, hD⟩ := va_join (wr := []) (w1 := [(q_1, .inr (5, [.int 0, .ref en.2.2.1, .int 0]))]) hP hD [0] [] rfl rfl (by decide) (by decide) hk1 hFc hP1 hD1
  generalize H1 = H at hP hS ⊢
  have hP : va_P (dC, dI) vwCl [(q_1, .inr (5, [.int 0, .ref en.2.2.1, .int 0]))] H := hP
  have hD : va_D A [(q_1, .inr (5, [.int 0, .ref en.2.2.1, .int 0]))] := hD
  have hR := en_R hR0 hN0 hS
  refine W.widen (k := 1) (n := 3) (Nat.le_of_ble_eq_true rfl) (Nat.le_of_ble_eq_true rfl) ?_
  refine lv_astore_n (lv' := [(2, .ref q_1), (0, .ref mm), (1, .int pc)]) hx hb dX18_possible_7 rfl hl (by decide) rfl (fun ls hl => ?_)
  refine lv_aload_n hx hb dX18_possible_8 rfl (lv_at hl 1 rfl) ?_
  refine va_get (D := (dC, dI)) (ci := 24) (v := .ref stu) (C := RX18) (T := TX18) (N := 17) hx hb hts (by decide +kernel) hown hK hR 0 rfl rfl 1 (by decide) (hts (.fieldLink RX18 10 "UnderpaintModel" "stuffs" "Ljava/util/List;") (by decide +kernel)) (fun _ h9 => h9) rfl dX18_possible_9 ?_
  have hPc := (hP.app hR).sub (ws' := [] ++ [(stu, .inr (5, [.int 0, .ref en.2.2.1, .int 0]))]) [2] rfl
  have hDc := (en_DD hD hDr hN0 hAb).sub (ws' := [] ++ [(stu, .inr (5, [.int 0, .ref en.2.2.1, .int 0]))]) [2] (by decide) rfl
  have hKc := hK.sub (tys' := []) [] rfl
  have hFc := va_free (wc := []) hD hS hA [] rfl
  refine va_callFi (va_runF (As := []) (rest := []) (hK.1 5 _ rfl).2 ⟨hx, hb, hml, hown, hts⟩ (c_Jx4a65c_size l dC dI b0 en H.size stu en.2.2.1 0 0) (va_cwF 0 hts gX18_possible_Jx4a65c_size_8abf5_f74Jx4a65c rfl rfl rfl (hE.face ("java/util/ArrayList", ⟨"java/util/List", "size", "()I"⟩, ⟨"java/util/ArrayList", "size", "()I"⟩) (by decide +kernel)) (by decide +kernel) ⟨Nat.le_of_ble_eq_true rfl, Nat.le_of_ble_eq_true rfl⟩) ⟨cP.blind, va_recv hK hR (ci := 5) (q0 := 1) rfl rfl, cP.use (en_z hb0 hS) (hE.on hAb hS) hPc hKc hDc trivial⟩ rfl rfl hl.1 rfl (lv_room (Nat.le_of_ble_eq_true rfl)) dX18_possible_12 ⟨Nat.le_of_ble_eq_true rfl, Nat.le_of_ble_eq_true rfl⟩) hS (fun q _ h => hFc q h) hFc (fun r_3 u t H1 locs ht hvm hw hB hz1 hk1 hS => ?_)
  have hP1 : va_P (dC, dI) vwCl [] H1 := fun k q h => by simp at h
  have hD1 : va_D (va_A [] H.size) [] := ⟨fun i j p q h => by simp at h, fun k q h => by simp at h⟩
  try dsimp only at hw
  obtain ⟨hP, hD⟩ := va_join (wr := [(q_1, .inr (5, [.int 0, .ref en.2.2.1, .int 0]))]) (w1 := []) hP hD [] [0] rfl rfl (by decide) (by decide) hk1 hFc hP1 hD1
  generalize H1 = H at hP hS ⊢
  have hP : va_P (dC, dI) vwCl [(q_1, .inr (5, [.int 0, .ref en.2.2.1, .int 0]))] H := hP
  have hD : va_D A [(q_1, .inr (5, [.int 0, .ref en.2.2.1, .int 0]))] := hD
  have hR := en_R hR0 hN0 hS
  refine W.widen (k := 1) (n := 3) (Nat.le_of_ble_eq_true rfl) (Nat.le_of_ble_eq_true rfl) ?_
  subst r_3
  refine lv_istore_n (lv' := [(3, .int 0), (2, .ref q_1), (0, .ref mm), (1, .int pc)]) hx hb dX18_possible_17 rfl hl (by decide) rfl (fun ls hl => ?_)
  refine lv_iload_n hx hb dX18_possible_18 rfl (lv_at hl 0 rfl) ?_
  refine va_newq (C := "UnderpaintModel$Layer") (N' := 0) hx hb hown (hts (.classLink RX18 152 "UnderpaintModel$Layer") (by decide +kernel)) (hE.arr (by decide +kernel)) hK hP hD hS hA (by decide) (by decide) (by decide) (Nat.le_of_ble_eq_true rfl) (Nat.le_of_ble_eq_true rfl) dX18_possible_19 (fun q_4 k_5 H hK hP hD hS => ?_)
  have hP : va_P (dC, dI) vwCl [(q_1, .inr (5, [.int 0, .ref en.2.2.1, .int 0])), (q_4, .inl (k_5, 0, .inr (.inr (.inr (.inr (fun _ => none))))))] H := hP
  have hD : va_D A [(q_1, .inr (5, [.int 0, .ref en.2.2.1, .int 0])), (q_4, .inl (k_5, 0, .inr (.inr (.inr (.inr (fun _ => none))))))] := hD
  have hR := en_R hR0 hN0 hS
  refine W.widen (k := 2) (n := 3) (Nat.le_of_ble_eq_true rfl) (Nat.le_of_ble_eq_true rfl) ?_
  refine lv_astore (lv' := [(4, .ref q_4), (3, .int 0), (2, .ref q_1), (0, .ref mm), (1, .int pc)]) hx hb dX18_possible_22 hl (by decide) rfl (fun ls hl => ?_)
  refine lv_iconst (v := 0) hx hb dX18_possible_24 (by decide) ?_
  refine lv_istore (lv' := [(5, .int 0), (4, .ref q_4), (3, .int 0), (2, .ref q_1), (0, .ref mm), (1, .int pc)]) hx hb dX18_possible_25 hl (by decide) rfl (fun ls hl => ?_)
  refine lv_iload hx hb dX18_possible_27 (lv_at hl 0 rfl) ?_
  refine lv_iload_n hx hb dX18_possible_29 rfl (lv_at hl 2 rfl) ?_
  refine lv_icmp_ge (tgt := 85) hx hb dX18_possible_30 (by decide) (fun c_6 => ?_) (fun c_6 => absurd c_6 (by decide))
  refine lv_iconst (v := 1) hx hb dX18_possible_85 (by decide) ?_
  refine lv_istore (lv' := [(5, .int 1), (4, .ref q_4), (3, .int 0), (2, .ref q_1), (0, .ref mm), (1, .int pc)]) hx hb dX18_possible_86 hl (by decide) rfl (fun ls hl => ?_)
  refine lv_iload hx hb dX18_possible_88 (lv_at hl 0 rfl) ?_
  refine lv_iconst (v := 4) hx hb dX18_possible_90 (by decide) ?_
  refine lv_icmp_ge (tgt := 352) hx hb dX18_possible_91 (by decide) (fun c_7 => absurd c_7 (by decide)) (fun c_7 => ?_)
  refine lv_iload hx hb dX18_possible_94 (lv_at hl 0 rfl) ?_
  refine lv_iconst (v := 1) hx hb dX18_possible_96 (by decide) ?_
  refine lv_icmp_ne (tgt := 104) hx hb dX18_possible_97 (by decide) (fun c_8 => absurd c_8 (by decide)) (fun c_8 => ?_)
  refine lv_iload_n hx hb dX18_possible_100 rfl (lv_at hl 2 rfl) ?_
  refine lv_goto (tgt := 121) hx hb dX18_possible_101 (by decide) ?_
  refine lv_istore (lv' := [(6, .int 0), (5, .int 1), (4, .ref q_4), (3, .int 0), (2, .ref q_1), (0, .ref mm), (1, .int pc)]) hx hb dX18_possible_121 hl (by decide) rfl (fun ls hl => ?_)
  refine lv_iconst (v := 0) hx hb dX18_possible_123 (by decide) ?_
  refine lv_istore (lv' := [(7, .int 0), (6, .int 0), (5, .int 1), (4, .ref q_4), (3, .int 0), (2, .ref q_1), (0, .ref mm), (1, .int pc)]) hx hb dX18_possible_124 hl (by decide) rfl (fun ls hl => ?_)
  refine lv_iload hx hb dX18_possible_126 (lv_at hl 0 rfl) ?_
  refine lv_iload hx hb dX18_possible_128 (lv_at hl 1 rfl) ?_
  refine lv_icmp_ge (tgt := 346) hx hb dX18_possible_130 (by decide) (fun c_9 => ?_) (fun c_9 => absurd c_9 (by decide))
  refine lv_iinc (v := 2) (lv' := [(5, .int 2), (7, .int 0), (6, .int 0), (4, .ref q_4), (3, .int 0), (2, .ref q_1), (0, .ref mm), (1, .int pc)]) hx hb dX18_possible_346 hl (k := 2) rfl (by decide) (by decide) rfl (fun ls hl => ?_)
  refine lv_goto (tgt := 88) hx hb dX18_possible_349 (by decide) ?_
  refine lv_iload hx hb dX18_possible_88 (lv_at hl 0 rfl) ?_
  refine lv_iconst (v := 4) hx hb dX18_possible_90 (by decide) ?_
  refine lv_icmp_ge (tgt := 352) hx hb dX18_possible_91 (by decide) (fun c_10 => absurd c_10 (by decide)) (fun c_10 => ?_)
  refine lv_iload hx hb dX18_possible_94 (lv_at hl 0 rfl) ?_
  refine lv_iconst (v := 1) hx hb dX18_possible_96 (by decide) ?_
  refine lv_icmp_ne (tgt := 104) hx hb dX18_possible_97 (by decide) (fun c_11 => ?_) (fun c_11 => absurd c_11 (by decide))
  refine lv_iload hx hb dX18_possible_104 (lv_at hl 0 rfl) ?_
  refine lv_iconst (v := 2) hx hb dX18_possible_106 (by decide) ?_
  refine lv_icmp_ne (tgt := 116) hx hb dX18_possible_107 (by decide) (fun c_12 => absurd c_12 (by decide)) (fun c_12 => ?_)
  refine lv_iload_n hx hb dX18_possible_110 rfl (lv_at hl 4 rfl) ?_
  refine lv_iload_n hx hb dX18_possible_111 rfl (lv_at hl 4 rfl) ?_
  refine lv_imul hx hb dX18_possible_112 ?_
  refine lv_topi (fun x_13 ex_13 => ?_)
  obtain rfl : x_13 = 0 := ex_13.trans (by decide)
  refine lv_goto (tgt := 121) hx hb dX18_possible_113 (by decide) ?_
  refine lv_istore (lv' := [(6, .int 0), (5, .int 2), (7, .int 0), (4, .ref q_4), (3, .int 0), (2, .ref q_1), (0, .ref mm), (1, .int pc)]) hx hb dX18_possible_121 hl (by decide) rfl (fun ls hl => ?_)
  refine lv_iconst (v := 0) hx hb dX18_possible_123 (by decide) ?_
  refine lv_istore (lv' := [(7, .int 0), (6, .int 0), (5, .int 2), (4, .ref q_4), (3, .int 0), (2, .ref q_1), (0, .ref mm), (1, .int pc)]) hx hb dX18_possible_124 hl (by decide) rfl (fun ls hl => ?_)
  refine lv_iload hx hb dX18_possible_126 (lv_at hl 0 rfl) ?_
  refine lv_iload hx hb dX18_possible_128 (lv_at hl 1 rfl) ?_
  refine lv_icmp_ge (tgt := 346) hx hb dX18_possible_130 (by decide) (fun c_14 => ?_) (fun c_14 => absurd c_14 (by decide))
  refine lv_iinc (v := 3) (lv' := [(5, .int 3), (7, .int 0), (6, .int 0), (4, .ref q_4), (3, .int 0), (2, .ref q_1), (0, .ref mm), (1, .int pc)]) hx hb dX18_possible_346 hl (k := 2) rfl (by decide) (by decide) rfl (fun ls hl => ?_)
  refine lv_goto (tgt := 88) hx hb dX18_possible_349 (by decide) ?_
  refine lv_iload hx hb dX18_possible_88 (lv_at hl 0 rfl) ?_
  refine lv_iconst (v := 4) hx hb dX18_possible_90 (by decide) ?_
  refine lv_icmp_ge (tgt := 352) hx hb dX18_possible_91 (by decide) (fun c_15 => absurd c_15 (by decide)) (fun c_15 => ?_)
  refine lv_iload hx hb dX18_possible_94 (lv_at hl 0 rfl) ?_
  refine lv_iconst (v := 1) hx hb dX18_possible_96 (by decide) ?_
  refine lv_icmp_ne (tgt := 104) hx hb dX18_possible_97 (by decide) (fun c_16 => ?_) (fun c_16 => absurd c_16 (by decide))
  refine lv_iload hx hb dX18_possible_104 (lv_at hl 0 rfl) ?_
  refine lv_iconst (v := 2) hx hb dX18_possible_106 (by decide) ?_
  refine lv_icmp_ne (tgt := 116) hx hb dX18_possible_107 (by decide) (fun c_17 => ?_) (fun c_17 => absurd c_17 (by decide))
  refine lv_iload_n hx hb dX18_possible_116 rfl (lv_at hl 4 rfl) ?_
  refine lv_iload_n hx hb dX18_possible_117 rfl (lv_at hl 4 rfl) ?_
  refine lv_imul hx hb dX18_possible_118 ?_
  refine lv_topi (fun x_18 ex_18 => ?_)
  obtain rfl : x_18 = 0 := ex_18.trans (by decide)
  refine lv_iload_n hx hb dX18_possible_119 rfl (lv_at hl 4 rfl) ?_
  refine lv_imul hx hb dX18_possible_120 ?_
  refine lv_topi (fun x_19 ex_19 => ?_)
  obtain rfl : x_19 = 0 := ex_19.trans (by decide)
  refine lv_istore (lv' := [(6, .int 0), (5, .int 3), (7, .int 0), (4, .ref q_4), (3, .int 0), (2, .ref q_1), (0, .ref mm), (1, .int pc)]) hx hb dX18_possible_121 hl (by decide) rfl (fun ls hl => ?_)
  refine lv_iconst (v := 0) hx hb dX18_possible_123 (by decide) ?_
  refine lv_istore (lv' := [(7, .int 0), (6, .int 0), (5, .int 3), (4, .ref q_4), (3, .int 0), (2, .ref q_1), (0, .ref mm), (1, .int pc)]) hx hb dX18_possible_124 hl (by decide) rfl (fun ls hl => ?_)
  refine lv_iload hx hb dX18_possible_126 (lv_at hl 0 rfl) ?_
  refine lv_iload hx hb dX18_possible_128 (lv_at hl 1 rfl) ?_
  refine lv_icmp_ge (tgt := 346) hx hb dX18_possible_130 (by decide) (fun c_20 => ?_) (fun c_20 => absurd c_20 (by decide))
  refine lv_iinc (v := 4) (lv' := [(5, .int 4), (7, .int 0), (6, .int 0), (4, .ref q_4), (3, .int 0), (2, .ref q_1), (0, .ref mm), (1, .int pc)]) hx hb dX18_possible_346 hl (k := 2) rfl (by decide) (by decide) rfl (fun ls hl => ?_)
  refine lv_goto (tgt := 88) hx hb dX18_possible_349 (by decide) ?_
  refine lv_iload hx hb dX18_possible_88 (lv_at hl 0 rfl) ?_
  refine lv_iconst (v := 4) hx hb dX18_possible_90 (by decide) ?_
  refine lv_icmp_ge (tgt := 352) hx hb dX18_possible_91 (by decide) (fun c_21 => ?_) (fun c_21 => absurd c_21 (by decide))
  refine lv_aload_n hx hb dX18_possible_352 rfl (lv_at hl 5 rfl) ?_
  refine W.widen (k := 2) (n := 3) (Nat.le_of_ble_eq_true rfl) (Nat.le_of_ble_eq_true rfl) ?_
  exact W.aret (v := .ref q_1) hx hb hr (by first | exact Or.inl ⟨_, rfl⟩ | exact Or.inr ⟨_, rfl⟩) (Or.inr ⟨_, rfl⟩) (fun t ht hW => ⟨⟨(), q_1, rfl, trivial, cB.mk ht hW (hP.sub [0] rfl) (hK.sub [] rfl) (hD.sub [0] (by decide) rfl) (trivial)⟩, hS.F ht⟩) hS.2.2 dX18_possible_353

set_option maxHeartbeats 4000000 in
set_option maxRecDepth 100000 in
theorem c_X18_guesses (l : Launch) (dC : Nat → ClassId) (dI : Nat → Nat → Nat) (b0 : Nat) (en : EnT) (sz : Nat) (mm stu cla pic act nts isn boa mas pai sol bal leg : Nat) (x y : Int32) : Met l yX18_guesses wsX18_guesses ({ frames := 5, cells := 2, slots := 3, locals := 121 } : Room) (cP b0 en (dC, dI) [] [(mm, .inr (24, [.int 0, .ref stu, .ref cla, .ref pic, .ref act, .int 5, .int 50, .ref nts, .ref isn, .int 1600, .ref boa, .ref mas, .ref pai, .ref sol, .int 0, .ref bal, .ref leg]))] [(stu, .inr (5, [.int 0, .ref en.2.2.1, .int 0]))] sz (fun _ => True) [.ref mm, .int x, .int y]) (va_Qi (fun (r : Int32) (u : Int32 × List Value) => (u.1 = 0 ∧ r = 0 ∧ (0 ≤ x ∧ x < 8) ∧ (0 ≤ y ∧ y < 6)) ∨ (u.1 = 1 ∧ ¬ ((0 ≤ x ∧ x < 8) ∧ (0 ≤ y ∧ y < 6)))) (fun u t => cB (dC, dI) [] [(mm, .inr (24, .int u.1 :: u.2))] (va_A [(mm, .inr (24, [.int 0, .ref stu, .ref cla, .ref pic, .ref act, .int 5, .int 50, .ref nts, .ref isn, .int 1600, .ref boa, .ref mas, .ref pai, .ref sol, .int 0, .ref bal, .ref leg]))] sz) (fun _ => True) t) (va_A [(mm, .inr (24, [.int 0, .ref stu, .ref cla, .ref pic, .ref act, .int 5, .int 50, .ref nts, .ref isn, .int 1600, .ref boa, .ref mas, .ref pai, .ref sol, .int 0, .ref bal, .ref leg]))] sz)) 2 3 (va_A [(mm, .inr (24, [.int 0, .ref stu, .ref cla, .ref pic, .ref act, .int 5, .int 50, .ref nts, .ref isn, .int 1600, .ref boa, .ref mas, .ref pai, .ref sol, .int 0, .ref bal, .ref leg]))] sz) := by
  refine Met.ofW (cc := cX18_guesses) (maxL := 3) (ret := (some .int)) (by decide) rfl ?_
  intro p e s m args below meth c s₁ B hml hv
  obtain ⟨rfl, hsz, hb0, hE, hPP, hK, hDD, hF0⟩ := hv
  have hx := B.exec
  have hb := B.bytes
  have hr := B.returns
  have hts := atoms_spec (ws := wsX18_guesses) B.pre
  have hown : s.vm.findClass RX18 = some m.cls := findClass_of_methodNamed B.named
  have hlocks := B.notSynchronized
  subst hsz
  have hN0 := en_N hPP hDD rfl
  have hP : va_P (dC, dI) vwCl [(mm, .inr (24, [.int 0, .ref stu, .ref cla, .ref pic, .ref act, .int 5, .int 50, .ref nts, .ref isn, .int 1600, .ref boa, .ref mas, .ref pai, .ref sol, .int 0, .ref bal, .ref leg]))] s.heap := hPP.sub [0] rfl
  have hR0 : va_P (dC, dI) vwCl [(stu, .inr (5, [.int 0, .ref en.2.2.1, .int 0]))] s.heap := hPP.sub [1] rfl
  have hD0 : va_D (fun q => b0 ≤ q) [(mm, .inr (24, [.int 0, .ref stu, .ref cla, .ref pic, .ref act, .int 5, .int 50, .ref nts, .ref isn, .int 1600, .ref boa, .ref mas, .ref pai, .ref sol, .int 0, .ref bal, .ref leg]))] := hDD.sub [0] (by decide) rfl
  have hDr : va_D (fun q => b0 ≤ q) [(stu, .inr (5, [.int 0, .ref en.2.2.1, .int 0]))] := hDD.sub [1] (by decide) rfl
  have hAb := en_A (sz := s.heap.size) hD0 hb0
  have hD := hD0.self (sz := s.heap.size)
  generalize hAe : va_A [(mm, .inr (24, [.int 0, .ref stu, .ref cla, .ref pic, .ref act, .int 5, .int 50, .ref nts, .ref isn, .int 1600, .ref boa, .ref mas, .ref pai, .ref sol, .int 0, .ref bal, .ref leg]))] s.heap.size = A at hD hAb hN0 ⊢
  have hA : ∀ q : Nat, s.heap.size ≤ q → A q := fun q h => by rw [← hAe]; exact Or.inr h
  have hS : va_S A s.heap s.heap [] := va_S.rf
  have hR := hR0
  have hl := lv_entry [.ref mm, .int x, .int y] (n := 3) (Nat.le_of_ble_eq_true rfl)
  rw [lg_entry_eq]
  generalize (lg_sl [.ref mm, .int x, .int y] ++ List.replicate (3 - (lg_sl [.ref mm, .int x, .int y]).length) Slot.unset).toArray = ls at hl ⊢
  have hl : lv_has ls 3 [(0, .ref mm), (1, .int x), (2, .int y)] := hl
  refine lv_aload_n hx hb dX18_guesses_0 rfl (lv_at hl 0 rfl) ?_
  refine lv_iconst (v := 0) hx hb dX18_guesses_1 (by decide) ?_
  refine va_put (D := (dC, dI)) (ci := 24) (v := .int 0) (ty := .int) (C := RX18) (T := TX18) (N := 17) hx hb hts (by decide +kernel) tyX18 tyX18_ok nmX18 hown hK hP hD hS 0 rfl rfl 0 (by decide) (hts (.fieldLink RX18 67 "UnderpaintModel" "code" "I") (by decide +kernel)) (fun _ h9 => h9) rfl (by decide +kernel) rfl rfl (Nat.le_of_ble_eq_true rfl) dX18_guesses_2 (fun H locs hP hD hS => ?_)
  have hP : va_P (dC, dI) vwCl [(mm, .inr (24, [.int 0, .ref stu, .ref cla, .ref pic, .ref act, .int 5, .int 50, .ref nts, .ref isn, .int 1600, .ref boa, .ref mas, .ref pai, .ref sol, .int 0, .ref bal, .ref leg]))] H := hP
  have hD : va_D A [(mm, .inr (24, [.int 0, .ref stu, .ref cla, .ref pic, .ref act, .int 5, .int 50, .ref nts, .ref isn, .int 1600, .ref boa, .ref mas, .ref pai, .ref sol, .int 0, .ref bal, .ref leg]))] := hD
  have hR := en_R hR0 hN0 hS
  refine lv_iload_n hx hb dX18_guesses_5 rfl (lv_at hl 1 rfl) ?_
  refine lv_iload_n hx hb dX18_guesses_6 rfl (lv_at hl 2 rfl) ?_
  have hPc := (hP.app hR).sub (ws' := [] ++ []) [] rfl
  have hDc := (en_DD hD hDr hN0 hAb).sub (ws' := [] ++ []) [] (by decide) rfl
  have hKc := hK.sub (tys' := []) [] rfl
  have hFc := va_free (wc := []) hD hS hA [] rfl
  refine va_calli (va_runS (As := [.int x, .int y]) (rest := []) ⟨hx, hb, hml, hown, hts⟩ (c_X18_isPlace l dC dI b0 en H.size x y) (va_cwS 2 hts gX18_guesses_X18_isPlace rfl rfl rfl (by decide +kernel) ⟨Nat.le_of_ble_eq_true rfl, Nat.le_of_ble_eq_true rfl⟩) ⟨cP.blind, cP.use (en_z hb0 hS) (hE.on hAb hS) hPc hKc hDc trivial⟩ rfl rfl hl.1 rfl (lv_room (Nat.le_of_ble_eq_true rfl)) dX18_guesses_7 ⟨Nat.le_of_ble_eq_true rfl, Nat.le_of_ble_eq_true rfl⟩) hS (fun q _ h => hFc q h) hFc (fun r_1 u t H1 locs ht hvm hw hB hz1 hk1 hS => ?_)
  have hP1 : va_P (dC, dI) vwCl [] H1 := fun k q h => by simp at h
  have hD1 : va_D (va_A [] H.size) [] := ⟨fun i j p q h => by simp at h, fun k q h => by simp at h⟩
  try dsimp only at hw
  obtain ⟨hP, hD⟩ := va_join (wr := [(mm, .inr (24, [.int 0, .ref stu, .ref cla, .ref pic, .ref act, .int 5, .int 50, .ref nts, .ref isn, .int 1600, .ref boa, .ref mas, .ref pai, .ref sol, .int 0, .ref bal, .ref leg]))]) (w1 := []) hP hD [] [0] rfl rfl (by decide) (by decide) hk1 hFc hP1 hD1
  generalize H1 = H at hP hS ⊢
  have hP : va_P (dC, dI) vwCl [(mm, .inr (24, [.int 0, .ref stu, .ref cla, .ref pic, .ref act, .int 5, .int 50, .ref nts, .ref isn, .int 1600, .ref boa, .ref mas, .ref pai, .ref sol, .int 0, .ref bal, .ref leg]))] H := hP
  have hD : va_D A [(mm, .inr (24, [.int 0, .ref stu, .ref cla, .ref pic, .ref act, .int 5, .int 50, .ref nts, .ref isn, .int 1600, .ref boa, .ref mas, .ref pai, .ref sol, .int 0, .ref bal, .ref leg]))] := hD
  have hR := en_R hR0 hN0 hS
  refine W.widen (k := 0) (n := 0) (Nat.le_of_ble_eq_true rfl) (Nat.le_of_ble_eq_true rfl) ?_
  have h_2 := hw
  refine lv_if_eq (tgt := 31) hx hb dX18_guesses_10 (by decide) (fun c_3 => ?_) (fun c_3 => ?_)
  · skip
    refine lv_aload_n hx hb dX18_guesses_31 rfl (lv_at hl 0 rfl) ?_
    refine lv_iconst (v := 1) hx hb dX18_guesses_32 (by decide) ?_
    have hPc := (hP.app hR).sub (ws' := [(mm, .inr (24, .int 0 :: ([.ref stu, .ref cla, .ref pic, .ref act, .int 5, .int 50, .ref nts, .ref isn, .int 1600, .ref boa, .ref mas, .ref pai, .ref sol, .int 0, .ref bal, .ref leg])))] ++ []) [0] rfl
    have hDc := (en_DD hD hDr hN0 hAb).sub (ws' := [(mm, .inr (24, .int 0 :: ([.ref stu, .ref cla, .ref pic, .ref act, .int 5, .int 50, .ref nts, .ref isn, .int 1600, .ref boa, .ref mas, .ref pai, .ref sol, .int 0, .ref bal, .ref leg])))] ++ []) [0] (by decide) rfl
    have hKc := hK.sub (tys' := []) [] rfl
    have hFc := va_free (wc := [(mm, .inr (24, .int 0 :: ([.ref stu, .ref cla, .ref pic, .ref act, .int 5, .int 50, .ref nts, .ref isn, .int 1600, .ref boa, .ref mas, .ref pai, .ref sol, .int 0, .ref bal, .ref leg])))]) hD hS hA [0] rfl
    refine va_calli (va_runV (As := [.int 1]) (rest := []) ⟨hx, hb, hml, hown, hts⟩ (c_X18_fails l dC dI b0 en H.size mm 0 1 ([.ref stu, .ref cla, .ref pic, .ref act, .int 5, .int 50, .ref nts, .ref isn, .int 1600, .ref boa, .ref mas, .ref pai, .ref sol, .int 0, .ref bal, .ref leg])) (cwV 1 hts gX18_guesses_X18_fails rfl rfl rfl (by decide +kernel) ⟨Nat.le_of_ble_eq_true rfl, Nat.le_of_ble_eq_true rfl⟩) ⟨cP.blind, va_recv hK hP (ci := 24) (q0 := 0) rfl rfl, cP.use (en_z hb0 hS) (hE.on hAb hS) hPc hKc hDc trivial⟩ rfl rfl hl.1 rfl (lv_room (Nat.le_of_ble_eq_true rfl)) dX18_guesses_33 ⟨Nat.le_of_ble_eq_true rfl, Nat.le_of_ble_eq_true rfl⟩) hS (fun q _ h => hFc q h) hFc (fun r_4 u t H1 locs ht hvm hw hB hz1 hk1 hS => ?_)
    obtain ⟨hP1, hK1, hD1, hF1⟩ := hB
    rw [ht] at hP1
    try rw [ht] at hF1
    have hK1 := va_K.moved hvm.symm hK1
    try dsimp only at hw
    obtain ⟨hP, hD⟩ := va_join (wr := []) (w1 := [(mm, .inr (24, [.int 1, .ref stu, .ref cla, .ref pic, .ref act, .int 5, .int 50, .ref nts, .ref isn, .int 1600, .ref boa, .ref mas, .ref pai, .ref sol, .int 0, .ref bal, .ref leg]))]) hP hD [0] [] rfl rfl (by decide) (by decide) hk1 hFc hP1 hD1
    generalize H1 = H at hP hS ⊢
    have hP : va_P (dC, dI) vwCl [(mm, .inr (24, [.int 1, .ref stu, .ref cla, .ref pic, .ref act, .int 5, .int 50, .ref nts, .ref isn, .int 1600, .ref boa, .ref mas, .ref pai, .ref sol, .int 0, .ref bal, .ref leg]))] H := hP
    have hD : va_D A [(mm, .inr (24, [.int 1, .ref stu, .ref cla, .ref pic, .ref act, .int 5, .int 50, .ref nts, .ref isn, .int 1600, .ref boa, .ref mas, .ref pai, .ref sol, .int 0, .ref bal, .ref leg]))] := hD
    have hR := en_R hR0 hN0 hS
    refine W.widen (k := 0) (n := 0) (Nat.le_of_ble_eq_true rfl) (Nat.le_of_ble_eq_true rfl) ?_
    subst r_4
    refine W.widen (k := 2) (n := 3) (Nat.le_of_ble_eq_true rfl) (Nat.le_of_ble_eq_true rfl) ?_
    exact W.iret (v := 0) hx hb hr (fun t ht hW => ⟨⟨0, ⟨1, [.ref stu, .ref cla, .ref pic, .ref act, .int 5, .int 50, .ref nts, .ref isn, .int 1600, .ref boa, .ref mas, .ref pai, .ref sol, .int 0, .ref bal, .ref leg]⟩, rfl, (z_c_X18_layers_32 x y r_1 h_2 c_3), cB.mk ht hW (hP.sub [0] rfl) (hK.sub [] rfl) (hD.sub [0] (by decide) rfl) (trivial)⟩, hS.F ht⟩) hS.2.2 dX18_guesses_36
  · skip
    refine lv_aload_n hx hb dX18_guesses_13 rfl (lv_at hl 0 rfl) ?_
    refine lv_bipush (v := 8) hx hb dX18_guesses_14 (by decide) ?_
    refine lv_iload_n hx hb dX18_guesses_16 rfl (lv_at hl 2 rfl) ?_
    refine lv_imul hx hb dX18_guesses_17 ?_
    refine lv_topi (fun x_5 ex_5 => ?_)
    refine lv_iload_n hx hb dX18_guesses_18 rfl (lv_at hl 1 rfl) ?_
    refine lv_iadd hx hb dX18_guesses_19 ?_
    refine lv_topi (fun x_6 ex_6 => ?_)
    have hPc := (hP.app hR).sub (ws' := [] ++ [(mm, .inr (24, [.int 0, .ref stu, .ref cla, .ref pic, .ref act, .int 5, .int 50, .ref nts, .ref isn, .int 1600, .ref boa, .ref mas, .ref pai, .ref sol, .int 0, .ref bal, .ref leg])), (stu, .inr (5, [.int 0, .ref en.2.2.1, .int 0]))]) [0, 1] rfl
    have hDc := (en_DD hD hDr hN0 hAb).sub (ws' := [] ++ [(mm, .inr (24, [.int 0, .ref stu, .ref cla, .ref pic, .ref act, .int 5, .int 50, .ref nts, .ref isn, .int 1600, .ref boa, .ref mas, .ref pai, .ref sol, .int 0, .ref bal, .ref leg])), (stu, .inr (5, [.int 0, .ref en.2.2.1, .int 0]))]) [0, 1] (by decide) rfl
    have hKc := hK.sub (tys' := []) [] rfl
    have hFc := va_free (wc := []) hD hS hA [] rfl
    refine va_callr (va_runV (As := [.int x_6]) (rest := []) ⟨hx, hb, hml, hown, hts⟩ (c_X18_possible l dC dI b0 en H.size mm stu cla pic act nts isn boa mas pai sol bal leg x_6) (cwV 1 hts gX18_guesses_X18_possible rfl rfl rfl (by decide +kernel) ⟨Nat.le_of_ble_eq_true rfl, Nat.le_of_ble_eq_true rfl⟩) ⟨cP.blind, va_recv hK hP (ci := 24) (q0 := 0) rfl rfl, cP.use (en_z hb0 hS) (hE.on hAb hS) hPc hKc hDc trivial⟩ rfl rfl hl.1 rfl (lv_room (Nat.le_of_ble_eq_true rfl)) dX18_guesses_20 ⟨Nat.le_of_ble_eq_true rfl, Nat.le_of_ble_eq_true rfl⟩) hS (fun q _ h => hFc q h) hFc (fun u r_7 t H1 locs ht hvm hw hB hz1 hk1 hS => ?_)
    obtain ⟨hP1, hK1, hD1, hF1⟩ := hB
    rw [ht] at hP1
    try rw [ht] at hF1
    have hK1 := va_K.moved hvm.symm hK1
    try dsimp only at hw
    obtain ⟨hP, hD⟩ := va_join (wr := [(mm, .inr (24, [.int 0, .ref stu, .ref cla, .ref pic, .ref act, .int 5, .int 50, .ref nts, .ref isn, .int 1600, .ref boa, .ref mas, .ref pai, .ref sol, .int 0, .ref bal, .ref leg]))]) (w1 := [(r_7, .inr (5, [.int 0, .ref en.2.2.1, .int 0]))]) hP hD [] [0] rfl rfl (by decide) (by decide) hk1 hFc hP1 hD1
    generalize H1 = H at hP hS ⊢
    have hP : va_P (dC, dI) vwCl [(mm, .inr (24, [.int 0, .ref stu, .ref cla, .ref pic, .ref act, .int 5, .int 50, .ref nts, .ref isn, .int 1600, .ref boa, .ref mas, .ref pai, .ref sol, .int 0, .ref bal, .ref leg])), (r_7, .inr (5, [.int 0, .ref en.2.2.1, .int 0]))] H := hP
    have hD : va_D A [(mm, .inr (24, [.int 0, .ref stu, .ref cla, .ref pic, .ref act, .int 5, .int 50, .ref nts, .ref isn, .int 1600, .ref boa, .ref mas, .ref pai, .ref sol, .int 0, .ref bal, .ref leg])), (r_7, .inr (5, [.int 0, .ref en.2.2.1, .int 0]))] := hD
    have hR := en_R hR0 hN0 hS
    refine W.widen (k := 2) (n := 3) (Nat.le_of_ble_eq_true rfl) (Nat.le_of_ble_eq_true rfl) ?_
    have hPc := (hP.app hR).sub (ws' := [] ++ [(r_7, .inr (5, [.int 0, .ref en.2.2.1, .int 0]))]) [1] rfl
    have hDc := (en_DD hD hDr hN0 hAb).sub (ws' := [] ++ [(r_7, .inr (5, [.int 0, .ref en.2.2.1, .int 0]))]) [1] (by decide) rfl
    have hKc := hK.sub (tys' := []) [] rfl
    have hFc := va_free (wc := []) hD hS hA [] rfl
    refine va_callFi (va_runF (As := []) (rest := []) (hK.1 5 _ rfl).2 ⟨hx, hb, hml, hown, hts⟩ (c_Jx4a65c_size l dC dI b0 en H.size r_7 en.2.2.1 0 0) (va_cwF 0 hts gX18_guesses_Jx4a65c_size_8abf5_f74Jx4a65c rfl rfl rfl (hE.face ("java/util/ArrayList", ⟨"java/util/List", "size", "()I"⟩, ⟨"java/util/ArrayList", "size", "()I"⟩) (by decide +kernel)) (by decide +kernel) ⟨Nat.le_of_ble_eq_true rfl, Nat.le_of_ble_eq_true rfl⟩) ⟨cP.blind, va_recv hK hP (ci := 5) (q0 := 1) rfl rfl, cP.use (en_z hb0 hS) (hE.on hAb hS) hPc hKc hDc trivial⟩ rfl rfl hl.1 rfl (lv_room (Nat.le_of_ble_eq_true rfl)) dX18_guesses_23 ⟨Nat.le_of_ble_eq_true rfl, Nat.le_of_ble_eq_true rfl⟩) hS (fun q _ h => hFc q h) hFc (fun r_8 u t H1 locs ht hvm hw hB hz1 hk1 hS => ?_)
    have hP1 : va_P (dC, dI) vwCl [] H1 := fun k q h => by simp at h
    have hD1 : va_D (va_A [] H.size) [] := ⟨fun i j p q h => by simp at h, fun k q h => by simp at h⟩
    try dsimp only at hw
    obtain ⟨hP, hD⟩ := va_join (wr := [(mm, .inr (24, [.int 0, .ref stu, .ref cla, .ref pic, .ref act, .int 5, .int 50, .ref nts, .ref isn, .int 1600, .ref boa, .ref mas, .ref pai, .ref sol, .int 0, .ref bal, .ref leg])), (r_7, .inr (5, [.int 0, .ref en.2.2.1, .int 0]))]) (w1 := []) hP hD [] [0, 1] rfl rfl (by decide) (by decide) hk1 hFc hP1 hD1
    generalize H1 = H at hP hS ⊢
    have hP : va_P (dC, dI) vwCl [(mm, .inr (24, [.int 0, .ref stu, .ref cla, .ref pic, .ref act, .int 5, .int 50, .ref nts, .ref isn, .int 1600, .ref boa, .ref mas, .ref pai, .ref sol, .int 0, .ref bal, .ref leg])), (r_7, .inr (5, [.int 0, .ref en.2.2.1, .int 0]))] H := hP
    have hD : va_D A [(mm, .inr (24, [.int 0, .ref stu, .ref cla, .ref pic, .ref act, .int 5, .int 50, .ref nts, .ref isn, .int 1600, .ref boa, .ref mas, .ref pai, .ref sol, .int 0, .ref bal, .ref leg])), (r_7, .inr (5, [.int 0, .ref en.2.2.1, .int 0]))] := hD
    have hR := en_R hR0 hN0 hS
    refine W.widen (k := 2) (n := 3) (Nat.le_of_ble_eq_true rfl) (Nat.le_of_ble_eq_true rfl) ?_
    subst r_8
    refine lv_goto (tgt := 36) hx hb dX18_guesses_28 (by decide) ?_
    refine W.widen (k := 2) (n := 3) (Nat.le_of_ble_eq_true rfl) (Nat.le_of_ble_eq_true rfl) ?_
    exact W.iret (v := 0) hx hb hr (fun t ht hW => ⟨⟨0, ⟨0, [.ref stu, .ref cla, .ref pic, .ref act, .int 5, .int 50, .ref nts, .ref isn, .int 1600, .ref boa, .ref mas, .ref pai, .ref sol, .int 0, .ref bal, .ref leg]⟩, rfl, (z_c_X18_layers_35 x y r_1 x_5 x_6 h_2 c_3 ex_5 ex_6), cB.mk ht hW (hP.sub [0] rfl) (hK.sub [] rfl) (hD.sub [0] (by decide) rfl) (trivial)⟩, hS.F ht⟩) hS.2.2 dX18_guesses_36
theorem z_c_X18_guessAt_107 (x : Int32) (y : Int32) (r_1 : Int32) (x_4 : Int32) (x_5 : Int32) (a_0 : r_1 = if (0 ≤ x ∧ x < 8) ∧ (0 ≤ y ∧ y < 6) then 1 else 0) (a_1 : ¬ r_1 = 0) (a_2 : x_4 = 8 * y) (a_3 : x_5 = x_4 + x) : (2 : Int32) = if (0 ≤ x ∧ x < 8) ∧ (0 ≤ y ∧ y < 6) then 2 else 1 := by grind
theorem z_c_X18_guessAt_108 (x : Int32) (y : Int32) (r_1 : Int32) (a_0 : r_1 = if (0 ≤ x ∧ x < 8) ∧ (0 ≤ y ∧ y < 6) then 1 else 0) (a_1 : r_1 = 0) : (1 : Int32) = if (0 ≤ x ∧ x < 8) ∧ (0 ≤ y ∧ y < 6) then 2 else 1 := by grind
set_option maxHeartbeats 4000000 in
set_option maxRecDepth 100000 in
theorem c_X18_guessAt (l : Launch) (dC : Nat → ClassId) (dI : Nat → Nat → Nat) (b0 : Nat) (en : EnT) (sz : Nat) (mm stu cla pic act nts isn boa mas pai sol bal leg : Nat) (x y n k : Int32) : Met l yX18_guessAt wsX18_guessAt ({ frames := 5, cells := 2, slots := 3, locals := 121 } : Room) (cP b0 en (dC, dI) [] [(mm, .inr (24, [.int 0, .ref stu, .ref cla, .ref pic, .ref act, .int 5, .int 50, .ref nts, .ref isn, .int 1600, .ref boa, .ref mas, .ref pai, .ref sol, .int 0, .ref bal, .ref leg]))] [(stu, .inr (5, [.int 0, .ref en.2.2.1, .int 0]))] sz (fun _ => True) [.ref mm, .int x, .int y, .int n, .int k]) (va_Qi (fun (r : Int32) (u : Int32 × List Value) => u.1 = if (0 ≤ x ∧ x < 8) ∧ (0 ≤ y ∧ y < 6) then 2 else 1) (fun u t => cB (dC, dI) [] [(mm, .inr (24, .int u.1 :: u.2))] (va_A [(mm, .inr (24, [.int 0, .ref stu, .ref cla, .ref pic, .ref act, .int 5, .int 50, .ref nts, .ref isn, .int 1600, .ref boa, .ref mas, .ref pai, .ref sol, .int 0, .ref bal, .ref leg]))] sz) (fun _ => True) t) (va_A [(mm, .inr (24, [.int 0, .ref stu, .ref cla, .ref pic, .ref act, .int 5, .int 50, .ref nts, .ref isn, .int 1600, .ref boa, .ref mas, .ref pai, .ref sol, .int 0, .ref bal, .ref leg]))] sz)) 2 3 (va_A [(mm, .inr (24, [.int 0, .ref stu, .ref cla, .ref pic, .ref act, .int 5, .int 50, .ref nts, .ref isn, .int 1600, .ref boa, .ref mas, .ref pai, .ref sol, .int 0, .ref bal, .ref leg]))] sz) := by
  refine Met.ofW (cc := cX18_guessAt) (maxL := 8) (ret := (some .int)) (by decide) rfl ?_
  intro p e s m args below meth c s₁ B hml hv
  obtain ⟨rfl, hsz, hb0, hE, hPP, hK, hDD, hF0⟩ := hv
  have hx := B.exec
  have hb := B.bytes
  have hr := B.returns
  have hts := atoms_spec (ws := wsX18_guessAt) B.pre
  have hown : s.vm.findClass RX18 = some m.cls := findClass_of_methodNamed B.named
  have hlocks := B.notSynchronized
  subst hsz
  have hN0 := en_N hPP hDD rfl
  have hP : va_P (dC, dI) vwCl [(mm, .inr (24, [.int 0, .ref stu, .ref cla, .ref pic, .ref act, .int 5, .int 50, .ref nts, .ref isn, .int 1600, .ref boa, .ref mas, .ref pai, .ref sol, .int 0, .ref bal, .ref leg]))] s.heap := hPP.sub [0] rfl
  have hR0 : va_P (dC, dI) vwCl [(stu, .inr (5, [.int 0, .ref en.2.2.1, .int 0]))] s.heap := hPP.sub [1] rfl
  have hD0 : va_D (fun q => b0 ≤ q) [(mm, .inr (24, [.int 0, .ref stu, .ref cla, .ref pic, .ref act, .int 5, .int 50, .ref nts, .ref isn, .int 1600, .ref boa, .ref mas, .ref pai, .ref sol, .int 0, .ref bal, .ref leg]))] := hDD.sub [0] (by decide) rfl
  have hDr : va_D (fun q => b0 ≤ q) [(stu, .inr (5, [.int 0, .ref en.2.2.1, .int 0]))] := hDD.sub [1] (by decide) rfl
  have hAb := en_A (sz := s.heap.size) hD0 hb0
  have hD := hD0.self (sz := s.heap.size)
  generalize hAe : va_A [(mm, .inr (24, [.int 0, .ref stu, .ref cla, .ref pic, .ref act, .int 5, .int 50, .ref nts, .ref isn, .int 1600, .ref boa, .ref mas, .ref pai, .ref sol, .int 0, .ref bal, .ref leg]))] s.heap.size = A at hD hAb hN0 ⊢
  have hA : ∀ q : Nat, s.heap.size ≤ q → A q := fun q h => by rw [← hAe]; exact Or.inr h
  have hS : va_S A s.heap s.heap [] := va_S.rf
  have hR := hR0
  have hl := lv_entry [.ref mm, .int x, .int y, .int n, .int k] (n := 8) (Nat.le_of_ble_eq_true rfl)
  rw [lg_entry_eq]
  generalize (lg_sl [.ref mm, .int x, .int y, .int n, .int k] ++ List.replicate (8 - (lg_sl [.ref mm, .int x, .int y, .int n, .int k]).length) Slot.unset).toArray = ls at hl ⊢
  have hl : lv_has ls 8 [(0, .ref mm), (1, .int x), (2, .int y), (3, .int n), (4, .int k)] := hl
  refine lv_aload_n hx hb dX18_guessAt_0 rfl (lv_at hl 0 rfl) ?_
  refine lv_iconst (v := 0) hx hb dX18_guessAt_1 (by decide) ?_
  refine va_put (D := (dC, dI)) (ci := 24) (v := .int 0) (ty := .int) (C := RX18) (T := TX18) (N := 17) hx hb hts (by decide +kernel) tyX18 tyX18_ok nmX18 hown hK hP hD hS 0 rfl rfl 0 (by decide) (hts (.fieldLink RX18 67 "UnderpaintModel" "code" "I") (by decide +kernel)) (fun _ h9 => h9) rfl (by decide +kernel) rfl rfl (Nat.le_of_ble_eq_true rfl) dX18_guessAt_2 (fun H locs hP hD hS => ?_)
  have hP : va_P (dC, dI) vwCl [(mm, .inr (24, [.int 0, .ref stu, .ref cla, .ref pic, .ref act, .int 5, .int 50, .ref nts, .ref isn, .int 1600, .ref boa, .ref mas, .ref pai, .ref sol, .int 0, .ref bal, .ref leg]))] H := hP
  have hD : va_D A [(mm, .inr (24, [.int 0, .ref stu, .ref cla, .ref pic, .ref act, .int 5, .int 50, .ref nts, .ref isn, .int 1600, .ref boa, .ref mas, .ref pai, .ref sol, .int 0, .ref bal, .ref leg]))] := hD
  have hR := en_R hR0 hN0 hS
  refine lv_iload_n hx hb dX18_guessAt_5 rfl (lv_at hl 1 rfl) ?_
  refine lv_iload_n hx hb dX18_guessAt_6 rfl (lv_at hl 2 rfl) ?_
  have hPc := (hP.app hR).sub (ws' := [] ++ []) [] rfl
  have hDc := (en_DD hD hDr hN0 hAb).sub (ws' := [] ++ []) [] (by decide) rfl
  have hKc := hK.sub (tys' := []) [] rfl
  have hFc := va_free (wc := []) hD hS hA [] rfl
  refine va_calli (va_runS (As := [.int x, .int y]) (rest := []) ⟨hx, hb, hml, hown, hts⟩ (c_X18_isPlace l dC dI b0 en H.size x y) (va_cwS 2 hts gX18_guessAt_X18_isPlace rfl rfl rfl (by decide +kernel) ⟨Nat.le_of_ble_eq_true rfl, Nat.le_of_ble_eq_true rfl⟩) ⟨cP.blind, cP.use (en_z hb0 hS) (hE.on hAb hS) hPc hKc hDc trivial⟩ rfl rfl hl.1 rfl (lv_room (Nat.le_of_ble_eq_true rfl)) dX18_guessAt_7 ⟨Nat.le_of_ble_eq_true rfl, Nat.le_of_ble_eq_true rfl⟩) hS (fun q _ h => hFc q h) hFc (fun r_1 u t H1 locs ht hvm hw hB hz1 hk1 hS => ?_)
  have hP1 : va_P (dC, dI) vwCl [] H1 := fun k q h => by simp at h
  have hD1 : va_D (va_A [] H.size) [] := ⟨fun i j p q h => by simp at h, fun k q h => by simp at h⟩
  try dsimp only at hw
  obtain ⟨hP, hD⟩ := va_join (wr := [(mm, .inr (24, [.int 0, .ref stu, .ref cla, .ref pic, .ref act, .int 5, .int 50, .ref nts, .ref isn, .int 1600, .ref boa, .ref mas, .ref pai, .ref sol, .int 0, .ref bal, .ref leg]))]) (w1 := []) hP hD [] [0] rfl rfl (by decide) (by decide) hk1 hFc hP1 hD1
  generalize H1 = H at hP hS ⊢
  have hP : va_P (dC, dI) vwCl [(mm, .inr (24, [.int 0, .ref stu, .ref cla, .ref pic, .ref act, .int 5, .int 50, .ref nts, .ref isn, .int 1600, .ref boa, .ref mas, .ref pai, .ref sol, .int 0, .ref bal, .ref leg]))] H := hP
  have hD : va_D A [(mm, .inr (24, [.int 0, .ref stu, .ref cla, .ref pic, .ref act, .int 5, .int 50, .ref nts, .ref isn, .int 1600, .ref boa, .ref mas, .ref pai, .ref sol, .int 0, .ref bal, .ref leg]))] := hD
  have hR := en_R hR0 hN0 hS
  refine W.widen (k := 0) (n := 0) (Nat.le_of_ble_eq_true rfl) (Nat.le_of_ble_eq_true rfl) ?_
  have h_2 := hw
  refine lv_if_ne (tgt := 19) hx hb dX18_guessAt_10 (by decide) (fun c_3 => ?_) (fun c_3 => ?_)
  · skip
    refine lv_aload_n hx hb dX18_guessAt_19 rfl (lv_at hl 0 rfl) ?_
    refine lv_bipush (v := 8) hx hb dX18_guessAt_20 (by decide) ?_
    refine lv_iload_n hx hb dX18_guessAt_22 rfl (lv_at hl 2 rfl) ?_
    refine lv_imul hx hb dX18_guessAt_23 ?_
    refine lv_topi (fun x_4 ex_4 => ?_)
    refine lv_iload_n hx hb dX18_guessAt_24 rfl (lv_at hl 1 rfl) ?_
    refine lv_iadd hx hb dX18_guessAt_25 ?_
    refine lv_topi (fun x_5 ex_5 => ?_)
    have hPc := (hP.app hR).sub (ws' := [] ++ [(mm, .inr (24, [.int 0, .ref stu, .ref cla, .ref pic, .ref act, .int 5, .int 50, .ref nts, .ref isn, .int 1600, .ref boa, .ref mas, .ref pai, .ref sol, .int 0, .ref bal, .ref leg])), (stu, .inr (5, [.int 0, .ref en.2.2.1, .int 0]))]) [0, 1] rfl
    have hDc := (en_DD hD hDr hN0 hAb).sub (ws' := [] ++ [(mm, .inr (24, [.int 0, .ref stu, .ref cla, .ref pic, .ref act, .int 5, .int 50, .ref nts, .ref isn, .int 1600, .ref boa, .ref mas, .ref pai, .ref sol, .int 0, .ref bal, .ref leg])), (stu, .inr (5, [.int 0, .ref en.2.2.1, .int 0]))]) [0, 1] (by decide) rfl
    have hKc := hK.sub (tys' := []) [] rfl
    have hFc := va_free (wc := []) hD hS hA [] rfl
    refine va_callr (va_runV (As := [.int x_5]) (rest := []) ⟨hx, hb, hml, hown, hts⟩ (c_X18_possible l dC dI b0 en H.size mm stu cla pic act nts isn boa mas pai sol bal leg x_5) (cwV 1 hts gX18_guessAt_X18_possible rfl rfl rfl (by decide +kernel) ⟨Nat.le_of_ble_eq_true rfl, Nat.le_of_ble_eq_true rfl⟩) ⟨cP.blind, va_recv hK hP (ci := 24) (q0 := 0) rfl rfl, cP.use (en_z hb0 hS) (hE.on hAb hS) hPc hKc hDc trivial⟩ rfl rfl hl.1 rfl (lv_room (Nat.le_of_ble_eq_true rfl)) dX18_guessAt_26 ⟨Nat.le_of_ble_eq_true rfl, Nat.le_of_ble_eq_true rfl⟩) hS (fun q _ h => hFc q h) hFc (fun u r_6 t H1 locs ht hvm hw hB hz1 hk1 hS => ?_)
    obtain ⟨hP1, hK1, hD1, hF1⟩ := hB
    rw [ht] at hP1
    try rw [ht] at hF1
    have hK1 := va_K.moved hvm.symm hK1
    try dsimp only at hw
    obtain ⟨hP, hD⟩ := va_join (wr := [(mm, .inr (24, [.int 0, .ref stu, .ref cla, .ref pic, .ref act, .int 5, .int 50, .ref nts, .ref isn, .int 1600, .ref boa, .ref mas, .ref pai, .ref sol, .int 0, .ref bal, .ref leg]))]) (w1 := [(r_6, .inr (5, [.int 0, .ref en.2.2.1, .int 0]))]) hP hD [] [0] rfl rfl (by decide) (by decide) hk1 hFc hP1 hD1
    generalize H1 = H at hP hS ⊢
    have hP : va_P (dC, dI) vwCl [(mm, .inr (24, [.int 0, .ref stu, .ref cla, .ref pic, .ref act, .int 5, .int 50, .ref nts, .ref isn, .int 1600, .ref boa, .ref mas, .ref pai, .ref sol, .int 0, .ref bal, .ref leg])), (r_6, .inr (5, [.int 0, .ref en.2.2.1, .int 0]))] H := hP
    have hD : va_D A [(mm, .inr (24, [.int 0, .ref stu, .ref cla, .ref pic, .ref act, .int 5, .int 50, .ref nts, .ref isn, .int 1600, .ref boa, .ref mas, .ref pai, .ref sol, .int 0, .ref bal, .ref leg])), (r_6, .inr (5, [.int 0, .ref en.2.2.1, .int 0]))] := hD
    have hR := en_R hR0 hN0 hS
    refine W.widen (k := 2) (n := 3) (Nat.le_of_ble_eq_true rfl) (Nat.le_of_ble_eq_true rfl) ?_
    refine lv_astore (lv' := [(5, .ref r_6), (0, .ref mm), (1, .int x), (2, .int y), (3, .int n), (4, .int k)]) hx hb dX18_guessAt_29 hl (by decide) rfl (fun ls hl => ?_)
    refine lv_iload_n hx hb dX18_guessAt_31 rfl (lv_at hl 4 rfl) ?_
    refine lv_iconst (v := 0) hx hb dX18_guessAt_32 (by decide) ?_
    refine lv_aload hx hb dX18_guessAt_33 (lv_at hl 0 rfl) ?_
    have hPc := (hP.app hR).sub (ws' := [] ++ [(r_6, .inr (5, [.int 0, .ref en.2.2.1, .int 0]))]) [1] rfl
    have hDc := (en_DD hD hDr hN0 hAb).sub (ws' := [] ++ [(r_6, .inr (5, [.int 0, .ref en.2.2.1, .int 0]))]) [1] (by decide) rfl
    have hKc := hK.sub (tys' := []) [] rfl
    have hFc := va_free (wc := []) hD hS hA [] rfl
    refine va_callFi (va_runF (As := []) (rest := [.int 0, .int n]) (hK.1 5 _ rfl).2 ⟨hx, hb, hml, hown, hts⟩ (c_Jx4a65c_size l dC dI b0 en H.size r_6 en.2.2.1 0 0) (va_cwF 0 hts gX18_guessAt_Jx4a65c_size_8abf5_f74Jx4a65c rfl rfl rfl (hE.face ("java/util/ArrayList", ⟨"java/util/List", "size", "()I"⟩, ⟨"java/util/ArrayList", "size", "()I"⟩) (by decide +kernel)) (by decide +kernel) ⟨Nat.le_of_ble_eq_true rfl, Nat.le_of_ble_eq_true rfl⟩) ⟨cP.blind, va_recv hK hP (ci := 5) (q0 := 1) rfl rfl, cP.use (en_z hb0 hS) (hE.on hAb hS) hPc hKc hDc trivial⟩ rfl rfl hl.1 rfl (lv_room (Nat.le_of_ble_eq_true rfl)) dX18_guessAt_35 ⟨Nat.le_of_ble_eq_true rfl, Nat.le_of_ble_eq_true rfl⟩) hS (fun q _ h => hFc q h) hFc (fun r_7 u t H1 locs ht hvm hw hB hz1 hk1 hS => ?_)
    have hP1 : va_P (dC, dI) vwCl [] H1 := fun k q h => by simp at h
    have hD1 : va_D (va_A [] H.size) [] := ⟨fun i j p q h => by simp at h, fun k q h => by simp at h⟩
    try dsimp only at hw
    obtain ⟨hP, hD⟩ := va_join (wr := [(mm, .inr (24, [.int 0, .ref stu, .ref cla, .ref pic, .ref act, .int 5, .int 50, .ref nts, .ref isn, .int 1600, .ref boa, .ref mas, .ref pai, .ref sol, .int 0, .ref bal, .ref leg])), (r_6, .inr (5, [.int 0, .ref en.2.2.1, .int 0]))]) (w1 := []) hP hD [] [0, 1] rfl rfl (by decide) (by decide) hk1 hFc hP1 hD1
    generalize H1 = H at hP hS ⊢
    have hP : va_P (dC, dI) vwCl [(mm, .inr (24, [.int 0, .ref stu, .ref cla, .ref pic, .ref act, .int 5, .int 50, .ref nts, .ref isn, .int 1600, .ref boa, .ref mas, .ref pai, .ref sol, .int 0, .ref bal, .ref leg])), (r_6, .inr (5, [.int 0, .ref en.2.2.1, .int 0]))] H := hP
    have hD : va_D A [(mm, .inr (24, [.int 0, .ref stu, .ref cla, .ref pic, .ref act, .int 5, .int 50, .ref nts, .ref isn, .int 1600, .ref boa, .ref mas, .ref pai, .ref sol, .int 0, .ref bal, .ref leg])), (r_6, .inr (5, [.int 0, .ref en.2.2.1, .int 0]))] := hD
    have hR := en_R hR0 hN0 hS
    refine W.widen (k := 2) (n := 3) (Nat.le_of_ble_eq_true rfl) (Nat.le_of_ble_eq_true rfl) ?_
    subst r_7
    refine lv_iconst (v := 1) hx hb dX18_guessAt_40 (by decide) ?_
    refine lv_isub hx hb dX18_guessAt_41 ?_
    refine lv_topi (fun x_8 ex_8 => ?_)
    obtain rfl : x_8 = (-1) := ex_8.trans (by decide)
    have hPc := (hP.app hR).sub (ws' := [] ++ []) [] rfl
    have hDc := (en_DD hD hDr hN0 hAb).sub (ws' := [] ++ []) [] (by decide) rfl
    have hKc := hK.sub (tys' := []) [] rfl
    have hFc := va_free (wc := []) hD hS hA [] rfl
    refine va_calli (va_runS (As := [.int n, .int 0, .int (-1)]) (rest := []) ⟨hx, hb, hml, hown, hts⟩ (c_X18_in0 l dC dI b0 en H.size n) (va_cwS 3 hts gX18_guessAt_X18_in rfl rfl rfl (by decide +kernel) ⟨Nat.le_of_ble_eq_true rfl, Nat.le_of_ble_eq_true rfl⟩) ⟨cP.blind, cP.use (en_z hb0 hS) (hE.on hAb hS) hPc hKc hDc trivial⟩ rfl rfl hl.1 rfl (lv_room (Nat.le_of_ble_eq_true rfl)) dX18_guessAt_42 ⟨Nat.le_of_ble_eq_true rfl, Nat.le_of_ble_eq_true rfl⟩) hS (fun q _ h => hFc q h) hFc (fun r_9 u t H1 locs ht hvm hw hB hz1 hk1 hS => ?_)
    have hP1 : va_P (dC, dI) vwCl [] H1 := fun k q h => by simp at h
    have hD1 : va_D (va_A [] H.size) [] := ⟨fun i j p q h => by simp at h, fun k q h => by simp at h⟩
    try dsimp only at hw
    obtain ⟨hP, hD⟩ := va_join (wr := [(mm, .inr (24, [.int 0, .ref stu, .ref cla, .ref pic, .ref act, .int 5, .int 50, .ref nts, .ref isn, .int 1600, .ref boa, .ref mas, .ref pai, .ref sol, .int 0, .ref bal, .ref leg])), (r_6, .inr (5, [.int 0, .ref en.2.2.1, .int 0]))]) (w1 := []) hP hD [] [0, 1] rfl rfl (by decide) (by decide) hk1 hFc hP1 hD1
    generalize H1 = H at hP hS ⊢
    have hP : va_P (dC, dI) vwCl [(mm, .inr (24, [.int 0, .ref stu, .ref cla, .ref pic, .ref act, .int 5, .int 50, .ref nts, .ref isn, .int 1600, .ref boa, .ref mas, .ref pai, .ref sol, .int 0, .ref bal, .ref leg])), (r_6, .inr (5, [.int 0, .ref en.2.2.1, .int 0]))] H := hP
    have hD : va_D A [(mm, .inr (24, [.int 0, .ref stu, .ref cla, .ref pic, .ref act, .int 5, .int 50, .ref nts, .ref isn, .int 1600, .ref boa, .ref mas, .ref pai, .ref sol, .int 0, .ref bal, .ref leg])), (r_6, .inr (5, [.int 0, .ref en.2.2.1, .int 0]))] := hD
    have hR := en_R hR0 hN0 hS
    refine W.widen (k := 2) (n := 3) (Nat.le_of_ble_eq_true rfl) (Nat.le_of_ble_eq_true rfl) ?_
    subst r_9
    refine lv_if_eq (tgt := 58) hx hb dX18_guessAt_45 (by decide) (fun c_10 => ?_) (fun c_10 => absurd c_10 (by decide))
    refine lv_aload_n hx hb dX18_guessAt_58 rfl (lv_at hl 1 rfl) ?_
    refine lv_iconst (v := 2) hx hb dX18_guessAt_59 (by decide) ?_
    have hPc := (hP.app hR).sub (ws' := [(mm, .inr (24, .int 0 :: ([.ref stu, .ref cla, .ref pic, .ref act, .int 5, .int 50, .ref nts, .ref isn, .int 1600, .ref boa, .ref mas, .ref pai, .ref sol, .int 0, .ref bal, .ref leg])))] ++ []) [0] rfl
    have hDc := (en_DD hD hDr hN0 hAb).sub (ws' := [(mm, .inr (24, .int 0 :: ([.ref stu, .ref cla, .ref pic, .ref act, .int 5, .int 50, .ref nts, .ref isn, .int 1600, .ref boa, .ref mas, .ref pai, .ref sol, .int 0, .ref bal, .ref leg])))] ++ []) [0] (by decide) rfl
    have hKc := hK.sub (tys' := []) [] rfl
    have hFc := va_free (wc := [(mm, .inr (24, .int 0 :: ([.ref stu, .ref cla, .ref pic, .ref act, .int 5, .int 50, .ref nts, .ref isn, .int 1600, .ref boa, .ref mas, .ref pai, .ref sol, .int 0, .ref bal, .ref leg])))]) hD hS hA [0] rfl
    refine va_calli (va_runV (As := [.int 2]) (rest := []) ⟨hx, hb, hml, hown, hts⟩ (c_X18_fails l dC dI b0 en H.size mm 0 2 ([.ref stu, .ref cla, .ref pic, .ref act, .int 5, .int 50, .ref nts, .ref isn, .int 1600, .ref boa, .ref mas, .ref pai, .ref sol, .int 0, .ref bal, .ref leg])) (cwV 1 hts gX18_guessAt_X18_fails rfl rfl rfl (by decide +kernel) ⟨Nat.le_of_ble_eq_true rfl, Nat.le_of_ble_eq_true rfl⟩) ⟨cP.blind, va_recv hK hP (ci := 24) (q0 := 0) rfl rfl, cP.use (en_z hb0 hS) (hE.on hAb hS) hPc hKc hDc trivial⟩ rfl rfl hl.1 rfl (lv_room (Nat.le_of_ble_eq_true rfl)) dX18_guessAt_60 ⟨Nat.le_of_ble_eq_true rfl, Nat.le_of_ble_eq_true rfl⟩) hS (fun q _ h => hFc q h) hFc (fun r_11 u t H1 locs ht hvm hw hB hz1 hk1 hS => ?_)
    obtain ⟨hP1, hK1, hD1, hF1⟩ := hB
    rw [ht] at hP1
    try rw [ht] at hF1
    have hK1 := va_K.moved hvm.symm hK1
    try dsimp only at hw
    obtain ⟨hP, hD⟩ := va_join (wr := [(r_6, .inr (5, [.int 0, .ref en.2.2.1, .int 0]))]) (w1 := [(mm, .inr (24, [.int 2, .ref stu, .ref cla, .ref pic, .ref act, .int 5, .int 50, .ref nts, .ref isn, .int 1600, .ref boa, .ref mas, .ref pai, .ref sol, .int 0, .ref bal, .ref leg]))]) hP hD [0] [1] rfl rfl (by decide) (by decide) hk1 hFc hP1 hD1
    generalize H1 = H at hP hS ⊢
    have hP : va_P (dC, dI) vwCl [(r_6, .inr (5, [.int 0, .ref en.2.2.1, .int 0])), (mm, .inr (24, [.int 2, .ref stu, .ref cla, .ref pic, .ref act, .int 5, .int 50, .ref nts, .ref isn, .int 1600, .ref boa, .ref mas, .ref pai, .ref sol, .int 0, .ref bal, .ref leg]))] H := hP
    have hD : va_D A [(r_6, .inr (5, [.int 0, .ref en.2.2.1, .int 0])), (mm, .inr (24, [.int 2, .ref stu, .ref cla, .ref pic, .ref act, .int 5, .int 50, .ref nts, .ref isn, .int 1600, .ref boa, .ref mas, .ref pai, .ref sol, .int 0, .ref bal, .ref leg]))] := hD
    have hR := en_R hR0 hN0 hS
    refine W.widen (k := 2) (n := 3) (Nat.le_of_ble_eq_true rfl) (Nat.le_of_ble_eq_true rfl) ?_
    subst r_11
    refine W.widen (k := 2) (n := 3) (Nat.le_of_ble_eq_true rfl) (Nat.le_of_ble_eq_true rfl) ?_
    exact W.iret (v := 0) hx hb hr (fun t ht hW => ⟨⟨0, ⟨2, [.ref stu, .ref cla, .ref pic, .ref act, .int 5, .int 50, .ref nts, .ref isn, .int 1600, .ref boa, .ref mas, .ref pai, .ref sol, .int 0, .ref bal, .ref leg]⟩, rfl, (z_c_X18_guessAt_107 x y r_1 x_4 x_5 h_2 c_3 ex_4 ex_5), cB.mk ht hW (hP.sub [1] rfl) (hK.sub [] rfl) (hD.sub [1] (by decide) rfl) (trivial)⟩, hS.F ht⟩) hS.2.2 dX18_guessAt_63
  · skip
    refine lv_aload_n hx hb dX18_guessAt_13 rfl (lv_at hl 0 rfl) ?_
    refine lv_iconst (v := 1) hx hb dX18_guessAt_14 (by decide) ?_
    have hPc := (hP.app hR).sub (ws' := [(mm, .inr (24, .int 0 :: ([.ref stu, .ref cla, .ref pic, .ref act, .int 5, .int 50, .ref nts, .ref isn, .int 1600, .ref boa, .ref mas, .ref pai, .ref sol, .int 0, .ref bal, .ref leg])))] ++ []) [0] rfl
    have hDc := (en_DD hD hDr hN0 hAb).sub (ws' := [(mm, .inr (24, .int 0 :: ([.ref stu, .ref cla, .ref pic, .ref act, .int 5, .int 50, .ref nts, .ref isn, .int 1600, .ref boa, .ref mas, .ref pai, .ref sol, .int 0, .ref bal, .ref leg])))] ++ []) [0] (by decide) rfl
    have hKc := hK.sub (tys' := []) [] rfl
    have hFc := va_free (wc := [(mm, .inr (24, .int 0 :: ([.ref stu, .ref cla, .ref pic, .ref act, .int 5, .int 50, .ref nts, .ref isn, .int 1600, .ref boa, .ref mas, .ref pai, .ref sol, .int 0, .ref bal, .ref leg])))]) hD hS hA [0] rfl
    refine va_calli (va_runV (As := [.int 1]) (rest := []) ⟨hx, hb, hml, hown, hts⟩ (c_X18_fails l dC dI b0 en H.size mm 0 1 ([.ref stu, .ref cla, .ref pic, .ref act, .int 5, .int 50, .ref nts, .ref isn, .int 1600, .ref boa, .ref mas, .ref pai, .ref sol, .int 0, .ref bal, .ref leg])) (cwV 1 hts gX18_guessAt_X18_fails rfl rfl rfl (by decide +kernel) ⟨Nat.le_of_ble_eq_true rfl, Nat.le_of_ble_eq_true rfl⟩) ⟨cP.blind, va_recv hK hP (ci := 24) (q0 := 0) rfl rfl, cP.use (en_z hb0 hS) (hE.on hAb hS) hPc hKc hDc trivial⟩ rfl rfl hl.1 rfl (lv_room (Nat.le_of_ble_eq_true rfl)) dX18_guessAt_15 ⟨Nat.le_of_ble_eq_true rfl, Nat.le_of_ble_eq_true rfl⟩) hS (fun q _ h => hFc q h) hFc (fun r_12 u t H1 locs ht hvm hw hB hz1 hk1 hS => ?_)
    obtain ⟨hP1, hK1, hD1, hF1⟩ := hB
    rw [ht] at hP1
    try rw [ht] at hF1
    have hK1 := va_K.moved hvm.symm hK1
    try dsimp only at hw
    obtain ⟨hP, hD⟩ := va_join (wr := []) (w1 := [(mm, .inr (24, [.int 1, .ref stu, .ref cla, .ref pic, .ref act, .int 5, .int 50, .ref nts, .ref isn, .int 1600, .ref boa, .ref mas, .ref pai, .ref sol, .int 0, .ref bal, .ref leg]))]) hP hD [0] [] rfl rfl (by decide) (by decide) hk1 hFc hP1 hD1
    generalize H1 = H at hP hS ⊢
    have hP : va_P (dC, dI) vwCl [(mm, .inr (24, [.int 1, .ref stu, .ref cla, .ref pic, .ref act, .int 5, .int 50, .ref nts, .ref isn, .int 1600, .ref boa, .ref mas, .ref pai, .ref sol, .int 0, .ref bal, .ref leg]))] H := hP
    have hD : va_D A [(mm, .inr (24, [.int 1, .ref stu, .ref cla, .ref pic, .ref act, .int 5, .int 50, .ref nts, .ref isn, .int 1600, .ref boa, .ref mas, .ref pai, .ref sol, .int 0, .ref bal, .ref leg]))] := hD
    have hR := en_R hR0 hN0 hS
    refine W.widen (k := 0) (n := 0) (Nat.le_of_ble_eq_true rfl) (Nat.le_of_ble_eq_true rfl) ?_
    subst r_12
    refine W.widen (k := 2) (n := 3) (Nat.le_of_ble_eq_true rfl) (Nat.le_of_ble_eq_true rfl) ?_
    exact W.iret (v := 0) hx hb hr (fun t ht hW => ⟨⟨0, ⟨1, [.ref stu, .ref cla, .ref pic, .ref act, .int 5, .int 50, .ref nts, .ref isn, .int 1600, .ref boa, .ref mas, .ref pai, .ref sol, .int 0, .ref bal, .ref leg]⟩, rfl, (z_c_X18_guessAt_108 x y r_1 h_2 c_3), cB.mk ht hW (hP.sub [0] rfl) (hK.sub [] rfl) (hD.sub [0] (by decide) rfl) (trivial)⟩, hS.F ht⟩) hS.2.2 dX18_guessAt_18
theorem z_c_X18_tooYoung_109 (n : Int32) (r_1 : Int32) (a_0 : r_1 = if 0 ≤ n ∧ n ≤ 9999 then 1 else 0) (a_1 : ¬ r_1 = 0) : (2 : Int32) = if 0 ≤ n ∧ n ≤ 9999 then 2 else 1 := by grind
theorem z_c_X18_tooYoung_110 (n : Int32) (r_1 : Int32) (a_0 : r_1 = if 0 ≤ n ∧ n ≤ 9999 then 1 else 0) (a_1 : r_1 = 0) : (1 : Int32) = if 0 ≤ n ∧ n ≤ 9999 then 2 else 1 := by grind
set_option maxHeartbeats 4000000 in
set_option maxRecDepth 100000 in
theorem c_X18_tooYoung (l : Launch) (dC : Nat → ClassId) (dI : Nat → Nat → Nat) (b0 : Nat) (en : EnT) (sz : Nat) (mm stu cla pic act nts isn boa mas pai sol bal leg : Nat) (ap scr : Nat) (g : Nat → Option Nat) (kP : ClassId) (N : Nat → Prop) (n : Int32) (hNb : ∀ a, N a → b0 ≤ a ∧ a < sz) (hNw : ∀ a, N a → a ∉ List.map Prod.fst ([(mm, .inr (24, [.int 0, .ref stu, .ref cla, .ref pic, .ref act, .int 5, .int 50, .ref nts, .ref isn, .int 1600, .ref boa, .ref mas, .ref pai, .ref sol, .int 0, .ref bal, .ref leg]))] : va_W)) (hNr : ∀ a, N a → a ∉ List.map Prod.fst ([(pic, .inr (20, [.ref ap, .ref scr, .int 1600, .int 0, .int 0, .ref mm])), (ap, .inl (kP, 48, .inr (.inr (.inr (.inr g)))))] : va_W)) : Met l yX18_tooYoung wsX18_tooYoung ({ frames := 3, cells := 48, slots := 192, locals := 71 } : Room) (cP b0 en (dC, dI) [(kP, .object "UnderpaintModel$Place")] [(mm, .inr (24, [.int 0, .ref stu, .ref cla, .ref pic, .ref act, .int 5, .int 50, .ref nts, .ref isn, .int 1600, .ref boa, .ref mas, .ref pai, .ref sol, .int 0, .ref bal, .ref leg]))] [(pic, .inr (20, [.ref ap, .ref scr, .int 1600, .int 0, .int 0, .ref mm])), (ap, .inl (kP, 48, .inr (.inr (.inr (.inr g)))))] sz (FamP (dC, dI) N en.2.2.1 g) [.ref mm, .int n]) (va_Qi (fun (r : Int32) (u : Int32 × List Value) => u.1 = if 0 ≤ n ∧ n ≤ 9999 then 2 else 1) (fun u t => cB (dC, dI) [] [(mm, .inr (24, .int u.1 :: u.2))] (va_A [(mm, .inr (24, [.int 0, .ref stu, .ref cla, .ref pic, .ref act, .int 5, .int 50, .ref nts, .ref isn, .int 1600, .ref boa, .ref mas, .ref pai, .ref sol, .int 0, .ref bal, .ref leg]))] sz) (fun _ => True) t) (va_A [(mm, .inr (24, [.int 0, .ref stu, .ref cla, .ref pic, .ref act, .int 5, .int 50, .ref nts, .ref isn, .int 1600, .ref boa, .ref mas, .ref pai, .ref sol, .int 0, .ref bal, .ref leg]))] sz)) 48 192 (va_A [(mm, .inr (24, [.int 0, .ref stu, .ref cla, .ref pic, .ref act, .int 5, .int 50, .ref nts, .ref isn, .int 1600, .ref boa, .ref mas, .ref pai, .ref sol, .int 0, .ref bal, .ref leg]))] sz) := by
  refine Met.ofW (cc := cX18_tooYoung) (maxL := 9) (ret := (some .int)) (by decide) rfl ?_
  intro p e s m args below meth c s₁ B hml hv
  obtain ⟨rfl, hsz, hb0, hE, hPP, hK, hDD, hF0⟩ := hv
  have hx := B.exec
  have hb := B.bytes
  have hr := B.returns
  have hts := atoms_spec (ws := wsX18_tooYoung) B.pre
  have hown : s.vm.findClass RX18 = some m.cls := findClass_of_methodNamed B.named
  have hlocks := B.notSynchronized
  subst hsz
  have hN0 := en_N hPP hDD rfl
  have hP : va_P (dC, dI) vwCl [(mm, .inr (24, [.int 0, .ref stu, .ref cla, .ref pic, .ref act, .int 5, .int 50, .ref nts, .ref isn, .int 1600, .ref boa, .ref mas, .ref pai, .ref sol, .int 0, .ref bal, .ref leg]))] s.heap := hPP.sub [0] rfl
  have hR0 : va_P (dC, dI) vwCl [(pic, .inr (20, [.ref ap, .ref scr, .int 1600, .int 0, .int 0, .ref mm])), (ap, .inl (kP, 48, .inr (.inr (.inr (.inr g)))))] s.heap := hPP.sub [1, 2] rfl
  have hD0 : va_D (fun q => b0 ≤ q) [(mm, .inr (24, [.int 0, .ref stu, .ref cla, .ref pic, .ref act, .int 5, .int 50, .ref nts, .ref isn, .int 1600, .ref boa, .ref mas, .ref pai, .ref sol, .int 0, .ref bal, .ref leg]))] := hDD.sub [0] (by decide) rfl
  have hDr : va_D (fun q => b0 ≤ q) [(pic, .inr (20, [.ref ap, .ref scr, .int 1600, .int 0, .int 0, .ref mm])), (ap, .inl (kP, 48, .inr (.inr (.inr (.inr g)))))] := hDD.sub [1, 2] (by decide) rfl
  have hAb := en_A (sz := s.heap.size) hD0 hb0
  have hD := hD0.self (sz := s.heap.size)
  generalize hAe : va_A [(mm, .inr (24, [.int 0, .ref stu, .ref cla, .ref pic, .ref act, .int 5, .int 50, .ref nts, .ref isn, .int 1600, .ref boa, .ref mas, .ref pai, .ref sol, .int 0, .ref bal, .ref leg]))] s.heap.size = A at hD hAb hN0 ⊢
  have hA : ∀ q : Nat, s.heap.size ≤ q → A q := fun q h => by rw [← hAe]; exact Or.inr h
  have hS : va_S A s.heap s.heap [] := va_S.rf
  have hR := hR0
  have hl := lv_entry [.ref mm, .int n] (n := 9) (Nat.le_of_ble_eq_true rfl)
  rw [lg_entry_eq]
  generalize (lg_sl [.ref mm, .int n] ++ List.replicate (9 - (lg_sl [.ref mm, .int n]).length) Slot.unset).toArray = ls at hl ⊢
  have hl : lv_has ls 9 [(0, .ref mm), (1, .int n)] := hl
  refine W.gen (fun Q hQ => ?_)
  have hR0b := hR0
  have hDrb := hDr
  have hN0b := hN0
  refine lv_aload_n hx hb dX18_tooYoung_0 rfl (lv_at hl 0 rfl) ?_
  refine lv_iconst (v := 0) hx hb dX18_tooYoung_1 (by decide) ?_
  refine va_put (D := (dC, dI)) (ci := 24) (v := .int 0) (ty := .int) (C := RX18) (T := TX18) (N := 17) hx hb hts (by decide +kernel) tyX18 tyX18_ok nmX18 hown hK hP hD hS 0 rfl rfl 0 (by decide) (hts (.fieldLink RX18 67 "UnderpaintModel" "code" "I") (by decide +kernel)) (fun _ h9 => h9) rfl (by decide +kernel) rfl rfl (Nat.le_of_ble_eq_true rfl) dX18_tooYoung_2 (fun H locs hP hD hS => ?_)
  have hP : va_P (dC, dI) vwCl [(mm, .inr (24, [.int 0, .ref stu, .ref cla, .ref pic, .ref act, .int 5, .int 50, .ref nts, .ref isn, .int 1600, .ref boa, .ref mas, .ref pai, .ref sol, .int 0, .ref bal, .ref leg]))] H := hP
  have hD : va_D A [(mm, .inr (24, [.int 0, .ref stu, .ref cla, .ref pic, .ref act, .int 5, .int 50, .ref nts, .ref isn, .int 1600, .ref boa, .ref mas, .ref pai, .ref sol, .int 0, .ref bal, .ref leg]))] := hD
  have hR := en_R hR0 hN0 hS
  refine lv_iload_n hx hb dX18_tooYoung_5 rfl (lv_at hl 1 rfl) ?_
  refine lv_iconst (v := 0) hx hb dX18_tooYoung_6 (by decide) ?_
  refine lv_sipush (v := 9999) hx hb dX18_tooYoung_7 (by decide) ?_
  have hPc := (hP.app hR).sub (ws' := [] ++ []) [] rfl
  have hDc := (en_DD hD hDr hN0 hAb).sub (ws' := [] ++ []) [] (by decide) rfl
  have hKc := hK.sub (tys' := []) [] rfl
  have hFc := va_free (wc := []) hD hS hA [] rfl
  refine va_calli (va_runS (As := [.int n, .int 0, .int 9999]) (rest := []) ⟨hx, hb, hml, hown, hts⟩ (c_X18_in l dC dI b0 en H.size n 0 9999) (va_cwS 3 hts gX18_tooYoung_X18_in rfl rfl rfl (by decide +kernel) ⟨Nat.le_of_ble_eq_true rfl, Nat.le_of_ble_eq_true rfl⟩) ⟨cP.blind, cP.use (en_z hb0 hS) (hE.on hAb hS) hPc hKc hDc trivial⟩ rfl rfl hl.1 rfl (lv_room (Nat.le_of_ble_eq_true rfl)) dX18_tooYoung_10 ⟨Nat.le_of_ble_eq_true rfl, Nat.le_of_ble_eq_true rfl⟩) hS (fun q _ h => hFc q h) hFc (fun r_1 u t H1 locs ht hvm hw hB hz1 hk1 hS => ?_)
  have hP1 : va_P (dC, dI) vwCl [] H1 := fun k q h => by simp at h
  have hD1 : va_D (va_A [] H.size) [] := ⟨fun i j p q h => by simp at h, fun k q h => by simp at h⟩
  try dsimp only at hw
  obtain ⟨hP, hD⟩ := va_join (wr := [(mm, .inr (24, [.int 0, .ref stu, .ref cla, .ref pic, .ref act, .int 5, .int 50, .ref nts, .ref isn, .int 1600, .ref boa, .ref mas, .ref pai, .ref sol, .int 0, .ref bal, .ref leg]))]) (w1 := []) hP hD [] [0] rfl rfl (by decide) (by decide) hk1 hFc hP1 hD1
  generalize H1 = H at hP hS ⊢
  have hP : va_P (dC, dI) vwCl [(mm, .inr (24, [.int 0, .ref stu, .ref cla, .ref pic, .ref act, .int 5, .int 50, .ref nts, .ref isn, .int 1600, .ref boa, .ref mas, .ref pai, .ref sol, .int 0, .ref bal, .ref leg]))] H := hP
  have hD : va_D A [(mm, .inr (24, [.int 0, .ref stu, .ref cla, .ref pic, .ref act, .int 5, .int 50, .ref nts, .ref isn, .int 1600, .ref boa, .ref mas, .ref pai, .ref sol, .int 0, .ref bal, .ref leg]))] := hD
  have hR := en_R hR0 hN0 hS
  refine W.widen (k := 0) (n := 0) (Nat.le_of_ble_eq_true rfl) (Nat.le_of_ble_eq_true rfl) ?_
  have h_2 := hw
  refine lv_if_ne (tgt := 22) hx hb dX18_tooYoung_13 (by decide) (fun c_3 => ?_) (fun c_3 => ?_)
  · skip
    refine lv_bipush (v := 99) hx hb dX18_tooYoung_22 (by decide) ?_
    refine lv_istore_n (lv' := [(2, .int 99), (0, .ref mm), (1, .int n)]) hx hb dX18_tooYoung_24 rfl hl (by decide) rfl (fun ls hl => ?_)
    refine lv_aload_n hx hb dX18_tooYoung_25 rfl (lv_at hl 1 rfl) ?_
    refine va_get (D := (dC, dI)) (ci := 24) (v := .ref pic) (C := RX18) (T := TX18) (N := 17) hx hb hts (by decide +kernel) hown hK hP 0 rfl rfl 3 (by decide) (hts (.fieldLink RX18 25 "UnderpaintModel" "picture" "LUnderpaintModel$Picture;") (by decide +kernel)) (fun _ h9 => h9) rfl dX18_tooYoung_26 ?_
    refine va_getN (D := (dC, dI)) (ci := 20) (v := .ref ap) (C := RX14) (T := TX14) (N := 6) hx hb hts (by decide +kernel) hown hK hR 0 rfl rfl 0 (by decide) (va_Nw.use rfl (hE.nf ("UnderpaintModel", 137, "UnderpaintModel$Picture", "at", "[LUnderpaintModel$Place;", "UnderpaintModel") (by decide +kernel))) (fun _ h9 => h9) rfl dX18_tooYoung_29 ?_
    refine lv_astore_n (lv' := [(3, .ref ap), (2, .int 99), (0, .ref mm), (1, .int n)]) hx hb dX18_tooYoung_32 rfl hl (by decide) rfl (fun ls hl => ?_)
    refine lv_aload_n hx hb dX18_tooYoung_33 rfl (lv_at hl 0 rfl) ?_
    refine va_alen hx hb hK hR 1 0 rfl rfl (v := 48) rfl dX18_tooYoung_34 ?_
    refine lv_istore (lv' := [(4, .int 48), (3, .ref ap), (2, .int 99), (0, .ref mm), (1, .int n)]) hx hb dX18_tooYoung_35 hl (by decide) rfl (fun ls hl => ?_)
    refine lv_iconst (v := 0) hx hb dX18_tooYoung_37 (by decide) ?_
    refine lv_istore (lv' := [(5, .int 0), (4, .int 48), (3, .ref ap), (2, .int 99), (0, .ref mm), (1, .int n)]) hx hb dX18_tooYoung_38 hl (by decide) rfl (fun ls hl => ?_)
    have loop_40 : ∀ (n_5 k_4 : Nat), k_4 + n_5 = 48 → ∀ (H : Heap) (locs : List Loc), va_P (dC, dI) vwCl [(mm, .inr (24, [.int 0, .ref stu, .ref cla, .ref pic, .ref act, .int 5, .int 50, .ref nts, .ref isn, .int 1600, .ref boa, .ref mas, .ref pai, .ref sol, .int 0, .ref bal, .ref leg]))] H → va_D A [(mm, .inr (24, [.int 0, .ref stu, .ref cla, .ref pic, .ref act, .int 5, .int 50, .ref nts, .ref isn, .int 1600, .ref boa, .ref mas, .ref pai, .ref sol, .int 0, .ref bal, .ref leg]))] → va_S A s.heap H locs → ∀ ls : Array Slot, lv_has ls 9 [(5, .int (nI k_4)), (4, .int 48), (3, .ref ap), (2, .int 99), (0, .ref mm), (1, .int n)] → W p l e (headSpec wsX18_tooYoung ({ frames := 3, cells := 48, slots := 192, locals := 71 } : Room)).room s m #[.ref mm, .int n] below meth c H locs (0 + 1 * k_4) (0 + 4 * k_4) Q (F0 m 40 ls []) := by
      intro n_5
      induction n_5 with
      | zero =>
        intro k_4 hk_6 H locs hP hD hS ls hl
        have ek_4 : k_4 = 48 := by omega
        subst ek_4
        have hl : lv_has ls 9 [(5, .int 48), (4, .int 48), (3, .ref ap), (2, .int 99), (0, .ref mm), (1, .int n)] := hl
        refine W.widen (k := 48) (n := 192) (Nat.le_of_ble_eq_true rfl) (Nat.le_of_ble_eq_true rfl) ?_
        have hR := en_R hR0 hN0 hS
        refine lv_iload hx hb dX18_tooYoung_40 (lv_at hl 0 rfl) ?_
        refine lv_iload hx hb dX18_tooYoung_42 (lv_at hl 1 rfl) ?_
        refine lv_icmp_ge (tgt := 137) hx hb dX18_tooYoung_44 (by decide) (fun c_8 => ?_) (fun c_8 => absurd c_8 (by decide))
        refine lv_iload_n hx hb dX18_tooYoung_137 rfl (lv_at hl 3 rfl) ?_
        refine lv_bipush (v := 99) hx hb dX18_tooYoung_138 (by decide) ?_
        refine lv_icmp_ne (tgt := 151) hx hb dX18_tooYoung_140 (by decide) (fun c_9 => absurd c_9 (by decide)) (fun c_9 => ?_)
        refine lv_aload_n hx hb dX18_tooYoung_143 rfl (lv_at hl 4 rfl) ?_
        refine lv_iconst (v := 2) hx hb dX18_tooYoung_144 (by decide) ?_
        have hPc := (hP.app hR).sub (ws' := [(mm, .inr (24, .int 0 :: ([.ref stu, .ref cla, .ref pic, .ref act, .int 5, .int 50, .ref nts, .ref isn, .int 1600, .ref boa, .ref mas, .ref pai, .ref sol, .int 0, .ref bal, .ref leg])))] ++ []) [0] rfl
        have hDc := (en_DD hD hDr hN0 hAb).sub (ws' := [(mm, .inr (24, .int 0 :: ([.ref stu, .ref cla, .ref pic, .ref act, .int 5, .int 50, .ref nts, .ref isn, .int 1600, .ref boa, .ref mas, .ref pai, .ref sol, .int 0, .ref bal, .ref leg])))] ++ []) [0] (by decide) rfl
        have hKc := hK.sub (tys' := []) [] rfl
        have hFc := va_free (wc := [(mm, .inr (24, .int 0 :: ([.ref stu, .ref cla, .ref pic, .ref act, .int 5, .int 50, .ref nts, .ref isn, .int 1600, .ref boa, .ref mas, .ref pai, .ref sol, .int 0, .ref bal, .ref leg])))]) hD hS hA [0] rfl
        refine va_calli (va_runV (As := [.int 2]) (rest := []) ⟨hx, hb, hml, hown, hts⟩ (c_X18_fails l dC dI b0 en H.size mm 0 2 ([.ref stu, .ref cla, .ref pic, .ref act, .int 5, .int 50, .ref nts, .ref isn, .int 1600, .ref boa, .ref mas, .ref pai, .ref sol, .int 0, .ref bal, .ref leg])) (cwV 1 hts gX18_tooYoung_X18_fails rfl rfl rfl (by decide +kernel) ⟨Nat.le_of_ble_eq_true rfl, Nat.le_of_ble_eq_true rfl⟩) ⟨cP.blind, va_recv hK hP (ci := 24) (q0 := 0) rfl rfl, cP.use (en_z hb0 hS) (hE.on hAb hS) hPc hKc hDc trivial⟩ rfl rfl hl.1 rfl (lv_room (Nat.le_of_ble_eq_true rfl)) dX18_tooYoung_145 ⟨Nat.le_of_ble_eq_true rfl, Nat.le_of_ble_eq_true rfl⟩) hS (fun q _ h => hFc q h) hFc (fun r_10 u t H1 locs ht hvm hw hB hz1 hk1 hS => ?_)
        obtain ⟨hP1, hK1, hD1, hF1⟩ := hB
        rw [ht] at hP1
        try rw [ht] at hF1
        have hK1 := va_K.moved hvm.symm hK1
        try dsimp only at hw
        obtain ⟨hP, hD⟩ := va_join (wr := []) (w1 := [(mm, .inr (24, [.int 2, .ref stu, .ref cla, .ref pic, .ref act, .int 5, .int 50, .ref nts, .ref isn, .int 1600, .ref boa, .ref mas, .ref pai, .ref sol, .int 0, .ref bal, .ref leg]))]) hP hD [0] [] rfl rfl (by decide) (by decide) hk1 hFc hP1 hD1
        generalize H1 = H at hP hS ⊢
        have hP : va_P (dC, dI) vwCl [(mm, .inr (24, [.int 2, .ref stu, .ref cla, .ref pic, .ref act, .int 5, .int 50, .ref nts, .ref isn, .int 1600, .ref boa, .ref mas, .ref pai, .ref sol, .int 0, .ref bal, .ref leg]))] H := hP
        have hD : va_D A [(mm, .inr (24, [.int 2, .ref stu, .ref cla, .ref pic, .ref act, .int 5, .int 50, .ref nts, .ref isn, .int 1600, .ref boa, .ref mas, .ref pai, .ref sol, .int 0, .ref bal, .ref leg]))] := hD
        have hR := en_R hR0 hN0 hS
        refine W.widen (k := 48) (n := 192) (Nat.le_of_ble_eq_true rfl) (Nat.le_of_ble_eq_true rfl) ?_
        subst r_10
        refine lv_goto (tgt := 152) hx hb dX18_tooYoung_148 (by decide) ?_
        subst hQ
        refine W.widen (k := 48) (n := 192) (Nat.le_of_ble_eq_true rfl) (Nat.le_of_ble_eq_true rfl) ?_
        exact W.iret (v := 0) hx hb hr (fun t ht hW => ⟨⟨0, ⟨2, [.ref stu, .ref cla, .ref pic, .ref act, .int 5, .int 50, .ref nts, .ref isn, .int 1600, .ref boa, .ref mas, .ref pai, .ref sol, .int 0, .ref bal, .ref leg]⟩, rfl, (z_c_X18_tooYoung_109 n r_1 h_2 c_3), cB.mk ht hW (hP.sub [0] rfl) (hK.sub [] rfl) (hD.sub [0] (by decide) rfl) (trivial)⟩, hS.F ht⟩) hS.2.2 dX18_tooYoung_152
      | succ n_5 ih =>
        intro k_4 hk_6 H locs hP hD hS ls hl
        have hk_11 : k_4 < 48 := by omega
        have hb_12 : 0 ≤ nI k_4 ∧ nI k_4 < 48 := ⟨nI_le (Nat.zero_le _) (by omega), nI_lk hk_11 (by decide)⟩
        have hR := en_R hR0 hN0 hS
        refine lv_iload hx hb dX18_tooYoung_40 (lv_at hl 0 rfl) ?_
        refine lv_iload hx hb dX18_tooYoung_42 (lv_at hl 1 rfl) ?_
        refine lv_icmp_ge (tgt := 137) hx hb dX18_tooYoung_44 (by decide) (fun c_13 => ?_) (fun c_13 => ?_)
        · skip
          first | exact absurd c_13 (nI_ge hk_11 (by decide)) | exact absurd (nI_lk hk_11 (by decide)) c_13
        · skip
          refine lv_aload_n hx hb dX18_tooYoung_47 rfl (lv_at hl 2 rfl) ?_
          refine lv_iload hx hb dX18_tooYoung_48 (lv_at hl 0 rfl) ?_
          refine va_aldq hx hb hK hR 1 0 rfl rfl (vp_in_nI hk_11 (by decide)) dX18_tooYoung_50 ?_
          obtain ⟨ap_14, lp_14, hgp_14, hup_14, hvp_14, hnp_14, hmp_14, hdp_14⟩ := hF0 k_4 hk_11
          refine lv_topv (w := .ref ap_14) (by rw [nI_clamp (by omega), hgp_14]; rfl) ?_
          have hxp_14 : ¬ A ap_14 := by rw [← hAe]; exact vA1 (ws := [(mm, .inr (24, [.int 0, .ref stu, .ref cla, .ref pic, .ref act, .int 5, .int 50, .ref nts, .ref isn, .int 1600, .ref boa, .ref mas, .ref pai, .ref sol, .int 0, .ref bal, .ref leg]))]) hup_14.lt (hNw ap_14 hnp_14)
          have hyp_14 : ¬ A lp_14 := by rw [← hAe]; exact vA1 (ws := [(mm, .inr (24, [.int 0, .ref stu, .ref cla, .ref pic, .ref act, .int 5, .int 50, .ref nts, .ref isn, .int 1600, .ref boa, .ref mas, .ref pai, .ref sol, .int 0, .ref bal, .ref leg]))]) hvp_14.lt (hNw lp_14 hmp_14)
          refine lv_astore (lv' := [(6, .ref ap_14), (5, .int (nI k_4)), (4, .int 48), (3, .ref ap), (2, .int 99), (0, .ref mm), (1, .int n)]) hx hb dX18_tooYoung_51 hl (by decide) rfl (fun ls hl => ?_)
          refine lv_aload hx hb dX18_tooYoung_53 (lv_at hl 0 rfl) ?_
          have hfa := va1 (hup_14.kept (hS.2.1 _ hup_14.lt hxp_14))
          refine va_getN (D := (dC, dI)) (ci := 21) (v := .ref lp_14) (C := RX15) (T := TX15) (N := 3) hx hb hts (by decide +kernel) hown hK hfa 0 rfl rfl 1 (by decide) (va_Nw.use rfl (hE.nf ("UnderpaintModel", 141, "UnderpaintModel$Place", "layers", "Ljava/util/List;", "UnderpaintModel") (by decide +kernel))) (fun _ h9 => h9) rfl dX18_tooYoung_55 ?_
          have hR0 : va_P (dC, dI) vwCl [(pic, .inr (20, [.ref ap, .ref scr, .int 1600, .int 0, .int 0, .ref mm])), (ap, .inl (kP, 48, .inr (.inr (.inr (.inr g))))), (lp_14, .inr (5, [.int 0, .ref en.2.2.1, .int 0]))] s.heap := (hR0b.app (va1 hvp_14))
          have hDr : va_D (fun q => b0 ≤ q) [(pic, .inr (20, [.ref ap, .ref scr, .int 1600, .int 0, .int 0, .ref mm])), (ap, .inl (kP, 48, .inr (.inr (.inr (.inr g))))), (lp_14, .inr (5, [.int 0, .ref en.2.2.1, .int 0]))] := (vD_push hDrb (hNb lp_14 hmp_14).1 (nR (hNr lp_14 hmp_14)))
          have hN0 : ∀ (k : Nat) (q : Nat × va_E), [(pic, .inr (20, [.ref ap, .ref scr, .int 1600, .int 0, .int 0, .ref mm])), (ap, .inl (kP, 48, .inr (.inr (.inr (.inr g))))), (lp_14, .inr (5, [.int 0, .ref en.2.2.1, .int 0]))][k]? = some q → ¬ A q.1 := (vN_push hN0b hyp_14)
          have hR : va_P (dC, dI) vwCl [(pic, .inr (20, [.ref ap, .ref scr, .int 1600, .int 0, .int 0, .ref mm])), (ap, .inl (kP, 48, .inr (.inr (.inr (.inr g))))), (lp_14, .inr (5, [.int 0, .ref en.2.2.1, .int 0]))] H := en_R hR0 hN0 hS
          have hPc := (hP.app hR).sub (ws' := [] ++ [(lp_14, .inr (5, [.int 0, .ref en.2.2.1, .int 0]))]) [3] rfl
          have hDc := (en_DD hD hDr hN0 hAb).sub (ws' := [] ++ [(lp_14, .inr (5, [.int 0, .ref en.2.2.1, .int 0]))]) [3] (by decide) rfl
          have hKc := hK.sub (tys' := []) [] rfl
          have hFc := va_free (wc := []) hD hS hA [] rfl
          refine va_callFr (va_runF (As := []) (rest := []) (hK.1 5 _ rfl).2 ⟨hx, hb, hml, hown, hts⟩ (c_iterator l dC dI b0 en H.size lp_14 en.2.2.1 0 0) (va_cwF 0 hts gX18_tooYoung_Jx4a65c_iterator_32c93_f224Jx4a65c rfl rfl rfl (hE.face ("java/util/ArrayList", ⟨"java/util/List", "iterator", "()Ljava/util/Iterator;"⟩, ⟨"java/util/ArrayList", "iterator", "()Ljava/util/Iterator;"⟩) (by decide +kernel)) (by decide +kernel) ⟨Nat.le_of_ble_eq_true rfl, Nat.le_of_ble_eq_true rfl⟩) ⟨cP.blind, va_recv hK hR (ci := 5) (q0 := 2) rfl rfl, cP.use (en_z hb0 hS) (hE.on hAb hS) hPc hKc hDc trivial⟩ rfl rfl hl.1 rfl (lv_room (Nat.le_of_ble_eq_true rfl)) dX18_tooYoung_58 ⟨(by show (_ : Nat) ≤ 48; omega), (by show (_ : Nat) ≤ 192; omega)⟩) hS (fun q _ h => hFc q h) hFc (fun u r_15 t H1 locs ht hvm hw hB hz1 hk1 hS => ?_)
          obtain ⟨hP1, hK1, hD1, hF1⟩ := hB
          rw [ht] at hP1
          try rw [ht] at hF1
          have hK1 := va_K.moved hvm.symm hK1
          try dsimp only at hw
          obtain ⟨hP, hD⟩ := va_join (wr := [(mm, .inr (24, [.int 0, .ref stu, .ref cla, .ref pic, .ref act, .int 5, .int 50, .ref nts, .ref isn, .int 1600, .ref boa, .ref mas, .ref pai, .ref sol, .int 0, .ref bal, .ref leg]))]) (w1 := [(r_15, .inr (4, [.int 0, .int (-1), .int 0, .ref lp_14]))]) hP hD [] [0] rfl rfl (by decide) (by decide) hk1 hFc hP1 hD1
          generalize H1 = H at hP hS ⊢
          have hP : va_P (dC, dI) vwCl [(mm, .inr (24, [.int 0, .ref stu, .ref cla, .ref pic, .ref act, .int 5, .int 50, .ref nts, .ref isn, .int 1600, .ref boa, .ref mas, .ref pai, .ref sol, .int 0, .ref bal, .ref leg])), (r_15, .inr (4, [.int 0, .int (-1), .int 0, .ref lp_14]))] H := hP
          have hD : va_D A [(mm, .inr (24, [.int 0, .ref stu, .ref cla, .ref pic, .ref act, .int 5, .int 50, .ref nts, .ref isn, .int 1600, .ref boa, .ref mas, .ref pai, .ref sol, .int 0, .ref bal, .ref leg])), (r_15, .inr (4, [.int 0, .int (-1), .int 0, .ref lp_14]))] := hD
          have hR := en_R hR0 hN0 hS
          refine W.widen (k := (1 + 1 * k_4)) (n := (4 + 4 * k_4)) (by omega) (by omega) ?_
          refine lv_astore (lv' := [(7, .ref r_15), (6, .ref ap_14), (5, .int (nI k_4)), (4, .int 48), (3, .ref ap), (2, .int 99), (0, .ref mm), (1, .int n)]) hx hb dX18_tooYoung_63 hl (by decide) rfl (fun ls hl => ?_)
          refine lv_aload hx hb dX18_tooYoung_65 (lv_at hl 0 rfl) ?_
          have hPc := (hP.app hR).sub (ws' := [] ++ [(r_15, .inr (4, [.int 0, .int (-1), .int 0, .ref lp_14])), (lp_14, .inr (5, [.int 0, .ref en.2.2.1, .int 0]))]) [1, 4] rfl
          have hDc := (en_DD hD hDr hN0 hAb).sub (ws' := [] ++ [(r_15, .inr (4, [.int 0, .int (-1), .int 0, .ref lp_14])), (lp_14, .inr (5, [.int 0, .ref en.2.2.1, .int 0]))]) [1, 4] (by decide) rfl
          have hKc := hK.sub (tys' := []) [] rfl
          have hFc := va_free (wc := []) hD hS hA [] rfl
          refine va_callFi (va_runF (As := []) (rest := []) (hK.1 4 _ rfl).2 ⟨hx, hb, hml, hown, hts⟩ (c_hasNext l dC dI b0 en H.size r_15 lp_14 en.2.2.1 0 0) (va_cwF 0 hts gX18_tooYoung_Jx35411_hasNext_aae02_f228Jx35411 rfl rfl rfl (hE.face ("java/util/ArrayList$Itr", ⟨"java/util/Iterator", "hasNext", "()Z"⟩, ⟨"java/util/ArrayList$Itr", "hasNext", "()Z"⟩) (by decide +kernel)) (by decide +kernel) ⟨Nat.le_of_ble_eq_true rfl, Nat.le_of_ble_eq_true rfl⟩) ⟨cP.blind, va_recv hK hP (ci := 4) (q0 := 1) rfl rfl, cP.use (en_z hb0 hS) (hE.on hAb hS) hPc hKc hDc trivial⟩ rfl rfl hl.1 rfl (lv_room (Nat.le_of_ble_eq_true rfl)) dX18_tooYoung_67 ⟨(by show (_ : Nat) ≤ 48; omega), (by show (_ : Nat) ≤ 192; omega)⟩) hS (fun q _ h => hFc q h) hFc (fun r_16 u t H1 locs ht hvm hw hB hz1 hk1 hS => ?_)
          have hP1 : va_P (dC, dI) vwCl [] H1 := fun k q h => by simp at h
          have hD1 : va_D (va_A [] H.size) [] := ⟨fun i j p q h => by simp at h, fun k q h => by simp at h⟩
          try dsimp only at hw
          obtain ⟨hP, hD⟩ := va_join (wr := [(mm, .inr (24, [.int 0, .ref stu, .ref cla, .ref pic, .ref act, .int 5, .int 50, .ref nts, .ref isn, .int 1600, .ref boa, .ref mas, .ref pai, .ref sol, .int 0, .ref bal, .ref leg])), (r_15, .inr (4, [.int 0, .int (-1), .int 0, .ref lp_14]))]) (w1 := []) hP hD [] [0, 1] rfl rfl (by decide) (by decide) hk1 hFc hP1 hD1
          generalize H1 = H at hP hS ⊢
          have hP : va_P (dC, dI) vwCl [(mm, .inr (24, [.int 0, .ref stu, .ref cla, .ref pic, .ref act, .int 5, .int 50, .ref nts, .ref isn, .int 1600, .ref boa, .ref mas, .ref pai, .ref sol, .int 0, .ref bal, .ref leg])), (r_15, .inr (4, [.int 0, .int (-1), .int 0, .ref lp_14]))] H := hP
          have hD : va_D A [(mm, .inr (24, [.int 0, .ref stu, .ref cla, .ref pic, .ref act, .int 5, .int 50, .ref nts, .ref isn, .int 1600, .ref boa, .ref mas, .ref pai, .ref sol, .int 0, .ref bal, .ref leg])), (r_15, .inr (4, [.int 0, .int (-1), .int 0, .ref lp_14]))] := hD
          have hR := en_R hR0 hN0 hS
          refine W.widen (k := (1 + 1 * k_4)) (n := (4 + 4 * k_4)) (by omega) (by omega) ?_
          subst r_16
          refine lv_if_eq (tgt := 131) hx hb dX18_tooYoung_72 (by decide) (fun c_17 => ?_) (fun c_17 => absurd c_17 (by decide))
          obtain ⟨x_18, ex_18⟩ : ∃ y : Int32, y = (nI k_4) + 1 := ⟨_, rfl⟩
          refine lv_iinc (v := x_18) (lv' := [(5, .int x_18), (7, .ref r_15), (6, .ref ap_14), (4, .int 48), (3, .ref ap), (2, .int 99), (0, .ref mm), (1, .int n)]) hx hb dX18_tooYoung_131 hl (k := 2) rfl (by rw [ex_18]; rfl) (by decide) rfl (fun ls hl => ?_)
          have hy : x_18 = nI (k_4 + 1) := by rw [ex_18]; exact nI_1 k_4
          subst hy
          refine lv_goto (tgt := 40) hx hb dX18_tooYoung_134 (by decide) ?_
          refine W.widen (k := 0 + 1 * (k_4 + 1)) (n := 0 + 4 * (k_4 + 1)) (by omega) (by omega) ?_
          exact ih (k_4 + 1) (by omega)  _ _ (hP.sub [0] rfl) (hD.sub [0] (by decide) rfl) hS _ (lv_sub hl [0, 3, 4, 5, 6, 7] rfl)
    exact loop_40 48 0 rfl  _ _ hP hD hS ls (lv_sub hl [0, 1, 2, 3, 4, 5] rfl)
  · skip
    refine lv_aload_n hx hb dX18_tooYoung_16 rfl (lv_at hl 0 rfl) ?_
    refine lv_iconst (v := 1) hx hb dX18_tooYoung_17 (by decide) ?_
    have hPc := (hP.app hR).sub (ws' := [(mm, .inr (24, .int 0 :: ([.ref stu, .ref cla, .ref pic, .ref act, .int 5, .int 50, .ref nts, .ref isn, .int 1600, .ref boa, .ref mas, .ref pai, .ref sol, .int 0, .ref bal, .ref leg])))] ++ []) [0] rfl
    have hDc := (en_DD hD hDr hN0 hAb).sub (ws' := [(mm, .inr (24, .int 0 :: ([.ref stu, .ref cla, .ref pic, .ref act, .int 5, .int 50, .ref nts, .ref isn, .int 1600, .ref boa, .ref mas, .ref pai, .ref sol, .int 0, .ref bal, .ref leg])))] ++ []) [0] (by decide) rfl
    have hKc := hK.sub (tys' := []) [] rfl
    have hFc := va_free (wc := [(mm, .inr (24, .int 0 :: ([.ref stu, .ref cla, .ref pic, .ref act, .int 5, .int 50, .ref nts, .ref isn, .int 1600, .ref boa, .ref mas, .ref pai, .ref sol, .int 0, .ref bal, .ref leg])))]) hD hS hA [0] rfl
    refine va_calli (va_runV (As := [.int 1]) (rest := []) ⟨hx, hb, hml, hown, hts⟩ (c_X18_fails l dC dI b0 en H.size mm 0 1 ([.ref stu, .ref cla, .ref pic, .ref act, .int 5, .int 50, .ref nts, .ref isn, .int 1600, .ref boa, .ref mas, .ref pai, .ref sol, .int 0, .ref bal, .ref leg])) (cwV 1 hts gX18_tooYoung_X18_fails rfl rfl rfl (by decide +kernel) ⟨Nat.le_of_ble_eq_true rfl, Nat.le_of_ble_eq_true rfl⟩) ⟨cP.blind, va_recv hK hP (ci := 24) (q0 := 0) rfl rfl, cP.use (en_z hb0 hS) (hE.on hAb hS) hPc hKc hDc trivial⟩ rfl rfl hl.1 rfl (lv_room (Nat.le_of_ble_eq_true rfl)) dX18_tooYoung_18 ⟨Nat.le_of_ble_eq_true rfl, Nat.le_of_ble_eq_true rfl⟩) hS (fun q _ h => hFc q h) hFc (fun r_19 u t H1 locs ht hvm hw hB hz1 hk1 hS => ?_)
    obtain ⟨hP1, hK1, hD1, hF1⟩ := hB
    rw [ht] at hP1
    try rw [ht] at hF1
    have hK1 := va_K.moved hvm.symm hK1
    try dsimp only at hw
    obtain ⟨hP, hD⟩ := va_join (wr := []) (w1 := [(mm, .inr (24, [.int 1, .ref stu, .ref cla, .ref pic, .ref act, .int 5, .int 50, .ref nts, .ref isn, .int 1600, .ref boa, .ref mas, .ref pai, .ref sol, .int 0, .ref bal, .ref leg]))]) hP hD [0] [] rfl rfl (by decide) (by decide) hk1 hFc hP1 hD1
    generalize H1 = H at hP hS ⊢
    have hP : va_P (dC, dI) vwCl [(mm, .inr (24, [.int 1, .ref stu, .ref cla, .ref pic, .ref act, .int 5, .int 50, .ref nts, .ref isn, .int 1600, .ref boa, .ref mas, .ref pai, .ref sol, .int 0, .ref bal, .ref leg]))] H := hP
    have hD : va_D A [(mm, .inr (24, [.int 1, .ref stu, .ref cla, .ref pic, .ref act, .int 5, .int 50, .ref nts, .ref isn, .int 1600, .ref boa, .ref mas, .ref pai, .ref sol, .int 0, .ref bal, .ref leg]))] := hD
    have hR := en_R hR0 hN0 hS
    refine W.widen (k := 0) (n := 0) (Nat.le_of_ble_eq_true rfl) (Nat.le_of_ble_eq_true rfl) ?_
    subst r_19
    subst hQ
    refine W.widen (k := 48) (n := 192) (Nat.le_of_ble_eq_true rfl) (Nat.le_of_ble_eq_true rfl) ?_
    exact W.iret (v := 0) hx hb hr (fun t ht hW => ⟨⟨0, ⟨1, [.ref stu, .ref cla, .ref pic, .ref act, .int 5, .int 50, .ref nts, .ref isn, .int 1600, .ref boa, .ref mas, .ref pai, .ref sol, .int 0, .ref bal, .ref leg]⟩, rfl, (z_c_X18_tooYoung_110 n r_1 h_2 c_3), cB.mk ht hW (hP.sub [0] rfl) (hK.sub [] rfl) (hD.sub [0] (by decide) rfl) (trivial)⟩, hS.F ht⟩) hS.2.2 dX18_tooYoung_21
