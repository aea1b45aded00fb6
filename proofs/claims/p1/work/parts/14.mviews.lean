theorem dX15_sum_0 : decode cX15_sum 0 = .ok (.iconst 0, 1) := by decide +kernel
theorem dX15_sum_1 : decode cX15_sum 1 = .ok (.istore_n 1, 1) := by decide +kernel
theorem dX15_sum_2 : decode cX15_sum 2 = .ok (.aload_n 0, 1) := by decide +kernel
theorem dX15_sum_3 : decode cX15_sum 3 = .ok (.getfield 12, 3) := by decide +kernel
set_option maxRecDepth 20000 in
theorem ggX15_sum_Jx4a65c_iterator_32c93 : GoodIn wsX15_sum wsJx4a65c_iterator_32c93 := goodIn_r _ [7, 8, 9, 10, 11, 12, 13, 14, 15, 16, 17, 18, 19, 20, 21, 44, 45, 46, 47, 48, 49, 50] (by decide +kernel) (by decide +kernel)
set_option maxRecDepth 20000 in
theorem gX15_sum_Jx4a65c_iterator_32c93_f22Jx4a65c : GoodIn wsX15_sum (va_wsF RX15 22 RJx4a65c ⟨"java/util/List", "iterator", "()Ljava/util/Iterator;"⟩ yJx4a65c_iterator_32c93 wsJx4a65c_iterator_32c93) := goodIn_app (goodIn_of _ (by decide +kernel)) ggX15_sum_Jx4a65c_iterator_32c93
theorem dX15_sum_6 : decode cX15_sum 6 = .ok (.invokeinterface 22 1, 5) := by decide +kernel
theorem dX15_sum_11 : decode cX15_sum 11 = .ok (.astore_n 2, 1) := by decide +kernel
theorem dX15_sum_12 : decode cX15_sum 12 = .ok (.aload_n 2, 1) := by decide +kernel
set_option maxRecDepth 20000 in
theorem ggX15_sum_Jx35411_hasNext_aae02 : GoodIn wsX15_sum wsJx35411_hasNext_aae02 := goodIn_r _ [25, 26, 14, 44, 45, 46, 47, 48, 49, 50] (by decide +kernel) (by decide +kernel)
set_option maxRecDepth 20000 in
theorem gX15_sum_Jx35411_hasNext_aae02_f28Jx35411 : GoodIn wsX15_sum (va_wsF RX15 28 RJx35411 ⟨"java/util/Iterator", "hasNext", "()Z"⟩ yJx35411_hasNext_aae02 wsJx35411_hasNext_aae02) := goodIn_app (goodIn_of _ (by decide +kernel)) ggX15_sum_Jx35411_hasNext_aae02
theorem dX15_sum_13 : decode cX15_sum 13 = .ok (.invokeinterface 28 1, 5) := by decide +kernel
theorem dX15_sum_18 : decode cX15_sum 18 = .ok (.ifCond .eq 23, 3) := by decide +kernel
theorem dX15_sum_41 : decode cX15_sum 41 = .ok (.iload_n 1, 1) := by decide +kernel
theorem dX15_sum_42 : decode cX15_sum 42 = .ok (.ireturn, 1) := by decide +kernel
theorem dX15_top_0 : decode cX15_top 0 = .ok (.aload_n 0, 1) := by decide +kernel
theorem dX15_top_1 : decode cX15_top 1 = .ok (.getfield 12, 3) := by decide +kernel
set_option maxRecDepth 20000 in
theorem ggX15_top_Jx4a65c_isEmpty_aae02 : GoodIn wsX15_top wsJx4a65c_isEmpty_aae02 := goodIn_r _ [7, 8, 33, 34, 35] (by decide +kernel) (by decide +kernel)
set_option maxRecDepth 20000 in
theorem gX15_top_Jx4a65c_isEmpty_aae02_f43Jx4a65c : GoodIn wsX15_top (va_wsF RX15 43 RJx4a65c ⟨"java/util/List", "isEmpty", "()Z"⟩ yJx4a65c_isEmpty_aae02 wsJx4a65c_isEmpty_aae02) := goodIn_app (goodIn_of _ (by decide +kernel)) ggX15_top_Jx4a65c_isEmpty_aae02
theorem dX15_top_4 : decode cX15_top 4 = .ok (.invokeinterface 43 1, 5) := by decide +kernel
theorem dX15_top_9 : decode cX15_top 9 = .ok (.ifCond .eq 7, 3) := by decide +kernel
theorem dX15_top_12 : decode cX15_top 12 = .ok (.aconst_null, 1) := by decide +kernel
theorem dX15_top_13 : decode cX15_top 13 = .ok (.goto 26, 3) := by decide +kernel
theorem dX15_top_39 : decode cX15_top 39 = .ok (.areturn, 1) := by decide +kernel
theorem dX15_plain_0 : decode cX15_plain 0 = .ok (.bipush 100, 2) := by decide +kernel
theorem dX15_plain_2 : decode cX15_plain 2 = .ok (.istore_n 1, 1) := by decide +kernel
theorem dX15_plain_3 : decode cX15_plain 3 = .ok (.iconst 0, 1) := by decide +kernel
theorem dX15_plain_4 : decode cX15_plain 4 = .ok (.istore_n 2, 1) := by decide +kernel
theorem dX15_plain_5 : decode cX15_plain 5 = .ok (.aload_n 0, 1) := by decide +kernel
theorem dX15_plain_6 : decode cX15_plain 6 = .ok (.getfield 12, 3) := by decide +kernel
set_option maxRecDepth 20000 in
theorem ggX15_plain_Jx4a65c_size_8abf5 : GoodIn wsX15_plain wsJx4a65c_size_8abf5 := goodIn_r _ [11, 12, 48, 49, 50] (by decide +kernel) (by decide +kernel)
set_option maxRecDepth 20000 in
theorem gX15_plain_Jx4a65c_size_8abf5_f46Jx4a65c : GoodIn wsX15_plain (va_wsF RX15 46 RJx4a65c ⟨"java/util/List", "size", "()I"⟩ yJx4a65c_size_8abf5 wsJx4a65c_size_8abf5) := goodIn_app (goodIn_of _ (by decide +kernel)) ggX15_plain_Jx4a65c_size_8abf5
theorem dX15_plain_9 : decode cX15_plain 9 = .ok (.invokeinterface 46 1, 5) := by decide +kernel
theorem dX15_plain_14 : decode cX15_plain 14 = .ok (.iconst 1, 1) := by decide +kernel
theorem dX15_plain_15 : decode cX15_plain 15 = .ok (.isub, 1) := by decide +kernel
theorem dX15_plain_16 : decode cX15_plain 16 = .ok (.istore_n 3, 1) := by decide +kernel
theorem dX15_plain_17 : decode cX15_plain 17 = .ok (.iload_n 3, 1) := by decide +kernel
theorem dX15_plain_18 : decode cX15_plain 18 = .ok (.ifCond .lt 135, 3) := by decide +kernel
theorem dX15_plain_153 : decode cX15_plain 153 = .ok (.iload_n 2, 1) := by decide +kernel
theorem dX15_plain_154 : decode cX15_plain 154 = .ok (.bipush 50, 2) := by decide +kernel
theorem dX15_plain_156 : decode cX15_plain 156 = .ok (.iload_n 1, 1) := by decide +kernel
theorem dX15_plain_157 : decode cX15_plain 157 = .ok (.imul, 1) := by decide +kernel
theorem dX15_plain_158 : decode cX15_plain 158 = .ok (.iadd, 1) := by decide +kernel
theorem dX15_plain_159 : decode cX15_plain 159 = .ok (.bipush 100, 2) := by decide +kernel
theorem dX15_plain_161 : decode cX15_plain 161 = .ok (.idiv, 1) := by decide +kernel
theorem dX15_plain_162 : decode cX15_plain 162 = .ok (.ireturn, 1) := by decide +kernel
theorem dX15_view_0 : decode cX15_view 0 = .ok (.iload_n 1, 1) := by decide +kernel
theorem dX15_view_1 : decode cX15_view 1 = .ok (.bipush 112, 2) := by decide +kernel
theorem dX15_view_3 : decode cX15_view 3 = .ok (.if_icmp .ne 8, 3) := by decide +kernel
theorem dX15_view_11 : decode cX15_view 11 = .ok (.iload_n 1, 1) := by decide +kernel
theorem dX15_view_12 : decode cX15_view 12 = .ok (.bipush 119, 2) := by decide +kernel
theorem dX15_view_14 : decode cX15_view 14 = .ok (.if_icmp .ne 60, 3) := by decide +kernel
theorem dX15_view_74 : decode cX15_view 74 = .ok (.iload_n 1, 1) := by decide +kernel
theorem dX15_view_75 : decode cX15_view 75 = .ok (.bipush 104, 2) := by decide +kernel
theorem dX15_view_77 : decode cX15_view 77 = .ok (.if_icmp .ne 64, 3) := by decide +kernel
theorem dX15_view_141 : decode cX15_view 141 = .ok (.aload_n 0, 1) := by decide +kernel
set_option maxRecDepth 20000 in
theorem ggX15_view_X15_top : GoodIn wsX15_view wsX15_top := goodIn_r _ [70, 1, 2, 71, 72, 73, 15, 74, 17, 12, 13, 14, 16, 18, 19, 20, 21, 22, 23, 24, 25, 26, 27, 28, 29, 30, 31, 32, 33, 34, 75, 76, 77, 93, 94, 95] (by decide +kernel) (by decide +kernel)
set_option maxRecDepth 20000 in
theorem gX15_view_X15_top : GoodIn wsX15_view (wsV RX15 96 RX15 yX15_top wsX15_top) := goodIn_app (goodIn_of _ (by decide +kernel)) ggX15_view_X15_top
theorem dX15_view_142 : decode cX15_view 142 = .ok (.invokevirtual 96, 3) := by decide +kernel
theorem dX15_view_145 : decode cX15_view 145 = .ok (.ifnonnull 7, 3) := by decide +kernel
theorem dX15_view_148 : decode cX15_view 148 = .ok (.iconst 0, 1) := by decide +kernel
theorem dX15_view_149 : decode cX15_view 149 = .ok (.goto 26, 3) := by decide +kernel
theorem dX15_view_175 : decode cX15_view 175 = .ok (.ireturn, 1) := by decide +kernel
theorem dX15_view_80 : decode cX15_view 80 = .ok (.iconst (-1), 1) := by decide +kernel
theorem dX15_view_81 : decode cX15_view 81 = .ok (.istore_n 2, 1) := by decide +kernel
theorem dX15_view_82 : decode cX15_view 82 = .ok (.aload_n 0, 1) := by decide +kernel
theorem dX15_view_83 : decode cX15_view 83 = .ok (.getfield 12, 3) := by decide +kernel
set_option maxRecDepth 20000 in
theorem ggX15_view_Jx4a65c_iterator_32c93 : GoodIn wsX15_view wsJx4a65c_iterator_32c93 := goodIn_r _ [38, 39, 40, 41, 42, 43, 44, 45, 46, 47, 48, 49, 50, 51, 52, 96, 97, 98, 99, 93, 94, 95] (by decide +kernel) (by decide +kernel)
set_option maxRecDepth 20000 in
theorem gX15_view_Jx4a65c_iterator_32c93_f22Jx4a65c : GoodIn wsX15_view (va_wsF RX15 22 RJx4a65c ⟨"java/util/List", "iterator", "()Ljava/util/Iterator;"⟩ yJx4a65c_iterator_32c93 wsJx4a65c_iterator_32c93) := goodIn_app (goodIn_of _ (by decide +kernel)) ggX15_view_Jx4a65c_iterator_32c93
theorem dX15_view_86 : decode cX15_view 86 = .ok (.invokeinterface 22 1, 5) := by decide +kernel
theorem dX15_view_91 : decode cX15_view 91 = .ok (.astore_n 3, 1) := by decide +kernel
theorem dX15_view_92 : decode cX15_view 92 = .ok (.aload_n 3, 1) := by decide +kernel
set_option maxRecDepth 20000 in
theorem ggX15_view_Jx35411_hasNext_aae02 : GoodIn wsX15_view wsJx35411_hasNext_aae02 := goodIn_r _ [56, 57, 45, 96, 97, 98, 99, 93, 94, 95] (by decide +kernel) (by decide +kernel)
set_option maxRecDepth 20000 in
theorem gX15_view_Jx35411_hasNext_aae02_f28Jx35411 : GoodIn wsX15_view (va_wsF RX15 28 RJx35411 ⟨"java/util/Iterator", "hasNext", "()Z"⟩ yJx35411_hasNext_aae02 wsJx35411_hasNext_aae02) := goodIn_app (goodIn_of _ (by decide +kernel)) ggX15_view_Jx35411_hasNext_aae02
theorem dX15_view_93 : decode cX15_view 93 = .ok (.invokeinterface 28 1, 5) := by decide +kernel
theorem dX15_view_98 : decode cX15_view 98 = .ok (.ifCond .eq 41, 3) := by decide +kernel
theorem dX15_view_139 : decode cX15_view 139 = .ok (.iload_n 2, 1) := by decide +kernel
theorem dX15_view_140 : decode cX15_view 140 = .ok (.ireturn, 1) := by decide +kernel
theorem dX15_view_17 : decode cX15_view 17 = .ok (.iconst 0, 1) := by decide +kernel
theorem dX15_view_18 : decode cX15_view 18 = .ok (.istore_n 2, 1) := by decide +kernel
theorem dX15_view_19 : decode cX15_view 19 = .ok (.aload_n 0, 1) := by decide +kernel
theorem dX15_view_20 : decode cX15_view 20 = .ok (.getfield 12, 3) := by decide +kernel
theorem dX15_view_23 : decode cX15_view 23 = .ok (.invokeinterface 22 1, 5) := by decide +kernel
theorem dX15_view_28 : decode cX15_view 28 = .ok (.astore_n 3, 1) := by decide +kernel
theorem dX15_view_29 : decode cX15_view 29 = .ok (.aload_n 3, 1) := by decide +kernel
theorem dX15_view_30 : decode cX15_view 30 = .ok (.invokeinterface 28 1, 5) := by decide +kernel
theorem dX15_view_35 : decode cX15_view 35 = .ok (.ifCond .eq 34, 3) := by decide +kernel
theorem dX15_view_69 : decode cX15_view 69 = .ok (.iload_n 2, 1) := by decide +kernel
theorem dX15_view_70 : decode cX15_view 70 = .ok (.bipush 10, 2) := by decide +kernel
theorem dX15_view_72 : decode cX15_view 72 = .ok (.idiv, 1) := by decide +kernel
theorem dX15_view_73 : decode cX15_view 73 = .ok (.ireturn, 1) := by decide +kernel
theorem dX15_view_6 : decode cX15_view 6 = .ok (.aload_n 0, 1) := by decide +kernel
set_option maxRecDepth 20000 in
theorem ggX15_view_X15_plain : GoodIn wsX15_view wsX15_plain := goodIn_r _ [11, 1, 2, 3, 4, 5, 6, 12, 13, 14, 15, 16, 17, 18, 19, 20, 21, 22, 23, 24, 25, 26, 27, 28, 29, 30, 31, 32, 33, 34, 75, 76, 77, 78, 79, 80, 81, 82, 83, 84, 85, 86, 87, 88, 89, 90, 91, 92, 93, 94, 95] (by decide +kernel) (by decide +kernel)
set_option maxRecDepth 20000 in
theorem gX15_view_X15_plain : GoodIn wsX15_view (wsV RX15 85 RX15 yX15_plain wsX15_plain) := goodIn_app (goodIn_of _ (by decide +kernel)) ggX15_view_X15_plain
theorem dX15_view_7 : decode cX15_view 7 = .ok (.invokevirtual 85, 3) := by decide +kernel
theorem dX15_view_10 : decode cX15_view 10 = .ok (.ireturn, 1) := by decide +kernel
theorem dX14_neighbour_0 : decode cX14_neighbour 0 = .ok (.iload_n 1, 1) := by decide +kernel
theorem dX14_neighbour_1 : decode cX14_neighbour 1 = .ok (.bipush 8, 2) := by decide +kernel
theorem dX14_neighbour_3 : decode cX14_neighbour 3 = .ok (.irem, 1) := by decide +kernel
theorem dX14_neighbour_4 : decode cX14_neighbour 4 = .ok (.iload_n 2, 1) := by decide +kernel
theorem dX14_neighbour_5 : decode cX14_neighbour 5 = .ok (.ifCond .ne 7, 3) := by decide +kernel
theorem dX14_neighbour_12 : decode cX14_neighbour 12 = .ok (.iload_n 2, 1) := by decide +kernel
theorem dX14_neighbour_13 : decode cX14_neighbour 13 = .ok (.iconst 1, 1) := by decide +kernel
theorem dX14_neighbour_14 : decode cX14_neighbour 14 = .ok (.if_icmp .ne 7, 3) := by decide +kernel
theorem dX14_neighbour_21 : decode cX14_neighbour 21 = .ok (.iconst 0, 1) := by decide +kernel
theorem dX14_neighbour_22 : decode cX14_neighbour 22 = .ok (.iadd, 1) := by decide +kernel
theorem dX14_neighbour_23 : decode cX14_neighbour 23 = .ok (.istore_n 3, 1) := by decide +kernel
theorem dX14_neighbour_24 : decode cX14_neighbour 24 = .ok (.iload_n 1, 1) := by decide +kernel
theorem dX14_neighbour_25 : decode cX14_neighbour 25 = .ok (.bipush 8, 2) := by decide +kernel
theorem dX14_neighbour_27 : decode cX14_neighbour 27 = .ok (.idiv, 1) := by decide +kernel
theorem dX14_neighbour_28 : decode cX14_neighbour 28 = .ok (.iload_n 2, 1) := by decide +kernel
theorem dX14_neighbour_29 : decode cX14_neighbour 29 = .ok (.iconst 2, 1) := by decide +kernel
theorem dX14_neighbour_30 : decode cX14_neighbour 30 = .ok (.if_icmp .ne 7, 3) := by decide +kernel
theorem dX14_neighbour_37 : decode cX14_neighbour 37 = .ok (.iload_n 2, 1) := by decide +kernel
theorem dX14_neighbour_38 : decode cX14_neighbour 38 = .ok (.iconst 3, 1) := by decide +kernel
theorem dX14_neighbour_39 : decode cX14_neighbour 39 = .ok (.if_icmp .ne 7, 3) := by decide +kernel
theorem dX14_neighbour_46 : decode cX14_neighbour 46 = .ok (.iconst 0, 1) := by decide +kernel
theorem dX14_neighbour_47 : decode cX14_neighbour 47 = .ok (.iadd, 1) := by decide +kernel
theorem dX14_neighbour_48 : decode cX14_neighbour 48 = .ok (.istore 4, 2) := by decide +kernel
theorem dX14_neighbour_50 : decode cX14_neighbour 50 = .ok (.iload_n 3, 1) := by decide +kernel
theorem dX14_neighbour_51 : decode cX14_neighbour 51 = .ok (.iconst 0, 1) := by decide +kernel
theorem dX14_neighbour_52 : decode cX14_neighbour 52 = .ok (.bipush 7, 2) := by decide +kernel
set_option maxRecDepth 20000 in
theorem ggX14_neighbour_X18_in : GoodIn wsX14_neighbour wsX18_in := goodIn_r _ [3] (by decide +kernel) (by decide +kernel)
set_option maxRecDepth 20000 in
theorem gX14_neighbour_X18_in_n87 : GoodIn wsX14_neighbour (wsX18_in) := ggX14_neighbour_X18_in
theorem dX14_neighbour_54 : decode cX14_neighbour 54 = .ok (.invokestatic 87, 3) := by decide +kernel
theorem dX14_neighbour_57 : decode cX14_neighbour 57 = .ok (.ifCond .eq 23, 3) := by decide +kernel
theorem dX14_neighbour_80 : decode cX14_neighbour 80 = .ok (.iconst (-1), 1) := by decide +kernel
theorem dX14_neighbour_81 : decode cX14_neighbour 81 = .ok (.ireturn, 1) := by decide +kernel
theorem dX14_neighbour_60 : decode cX14_neighbour 60 = .ok (.iload 4, 2) := by decide +kernel
theorem dX14_neighbour_62 : decode cX14_neighbour 62 = .ok (.iconst 0, 1) := by decide +kernel
theorem dX14_neighbour_63 : decode cX14_neighbour 63 = .ok (.iconst 5, 1) := by decide +kernel
theorem dX14_neighbour_64 : decode cX14_neighbour 64 = .ok (.invokestatic 87, 3) := by decide +kernel
theorem dX14_neighbour_67 : decode cX14_neighbour 67 = .ok (.ifCond .eq 13, 3) := by decide +kernel
theorem dX14_neighbour_70 : decode cX14_neighbour 70 = .ok (.bipush 8, 2) := by decide +kernel
theorem dX14_neighbour_72 : decode cX14_neighbour 72 = .ok (.iload 4, 2) := by decide +kernel
theorem dX14_neighbour_74 : decode cX14_neighbour 74 = .ok (.imul, 1) := by decide +kernel
theorem dX14_neighbour_75 : decode cX14_neighbour 75 = .ok (.iload_n 3, 1) := by decide +kernel
theorem dX14_neighbour_76 : decode cX14_neighbour 76 = .ok (.iadd, 1) := by decide +kernel
theorem dX14_neighbour_77 : decode cX14_neighbour 77 = .ok (.goto 4, 3) := by decide +kernel
theorem dX14_neighbour_42 : decode cX14_neighbour 42 = .ok (.iconst 1, 1) := by decide +kernel
theorem dX14_neighbour_43 : decode cX14_neighbour 43 = .ok (.goto 4, 3) := by decide +kernel
theorem dX14_neighbour_33 : decode cX14_neighbour 33 = .ok (.iconst (-1), 1) := by decide +kernel
theorem dX14_neighbour_34 : decode cX14_neighbour 34 = .ok (.goto 13, 3) := by decide +kernel
theorem dX14_neighbour_17 : decode cX14_neighbour 17 = .ok (.iconst 1, 1) := by decide +kernel
theorem dX14_neighbour_18 : decode cX14_neighbour 18 = .ok (.goto 4, 3) := by decide +kernel
theorem dX14_neighbour_8 : decode cX14_neighbour 8 = .ok (.iconst (-1), 1) := by decide +kernel
theorem dX14_neighbour_9 : decode cX14_neighbour 9 = .ok (.goto 13, 3) := by decide +kernel
theorem dX14_raking_0 : decode cX14_raking 0 = .ok (.iconst 0, 1) := by decide +kernel
theorem dX14_raking_1 : decode cX14_raking 1 = .ok (.istore_n 2, 1) := by decide +kernel
theorem dX14_raking_2 : decode cX14_raking 2 = .ok (.iconst 0, 1) := by decide +kernel
theorem dX14_raking_3 : decode cX14_raking 3 = .ok (.istore_n 3, 1) := by decide +kernel
theorem dX14_raking_4 : decode cX14_raking 4 = .ok (.iload_n 3, 1) := by decide +kernel
theorem dX14_raking_5 : decode cX14_raking 5 = .ok (.iconst 4, 1) := by decide +kernel
theorem dX14_raking_6 : decode cX14_raking 6 = .ok (.if_icmp .ge 54, 3) := by decide +kernel
theorem dX14_raking_60 : decode cX14_raking 60 = .ok (.iload_n 2, 1) := by decide +kernel
theorem dX14_raking_61 : decode cX14_raking 61 = .ok (.ireturn, 1) := by decide +kernel
theorem dX14_raking_9 : decode cX14_raking 9 = .ok (.aload_n 0, 1) := by decide +kernel
theorem dX14_raking_10 : decode cX14_raking 10 = .ok (.iload_n 1, 1) := by decide +kernel
theorem dX14_raking_11 : decode cX14_raking 11 = .ok (.iload_n 3, 1) := by decide +kernel
set_option maxRecDepth 20000 in
theorem ggX14_raking_X14_neighbour : GoodIn wsX14_raking wsX14_neighbour := goodIn_r _ [13, 14, 15, 16] (by decide +kernel) (by decide +kernel)
set_option maxRecDepth 20000 in
theorem gX14_raking_X14_neighbour : GoodIn wsX14_raking (wsV RX14 91 RX14 yX14_neighbour wsX14_neighbour) := goodIn_app (goodIn_of _ (by decide +kernel)) ggX14_raking_X14_neighbour
theorem dX14_raking_12 : decode cX14_raking 12 = .ok (.invokevirtual 91, 3) := by decide +kernel
theorem dX14_raking_15 : decode cX14_raking 15 = .ok (.istore 4, 2) := by decide +kernel
theorem dX14_raking_17 : decode cX14_raking 17 = .ok (.iload 4, 2) := by decide +kernel
theorem dX14_raking_19 : decode cX14_raking 19 = .ok (.ifCond .ge 7, 3) := by decide +kernel
theorem dX14_raking_26 : decode cX14_raking 26 = .ok (.iload_n 2, 1) := by decide +kernel
theorem dX14_raking_27 : decode cX14_raking 27 = .ok (.aload_n 0, 1) := by decide +kernel
theorem dX14_raking_28 : decode cX14_raking 28 = .ok (.getfield 17, 3) := by decide +kernel
theorem dX14_raking_31 : decode cX14_raking 31 = .ok (.iload 4, 2) := by decide +kernel
theorem dX14_raking_33 : decode cX14_raking 33 = .ok (.aaload, 1) := by decide +kernel
set_option maxRecDepth 20000 in
theorem ggX14_raking_X15_sum : GoodIn wsX14_raking wsX15_sum := goodIn_r _ [21, 22, 23, 24, 25, 26, 27, 28, 29, 30, 31, 32, 33, 34, 35, 36, 37, 38, 39, 40, 41, 42, 43, 44, 45, 46, 47, 48, 49, 50, 51, 52, 53, 54, 55, 56, 63, 64, 65, 66, 67, 68, 69, 70, 71, 72, 73, 74, 75, 76, 77] (by decide +kernel) (by decide +kernel)
set_option maxRecDepth 20000 in
theorem gX14_raking_X15_sum : GoodIn wsX14_raking (wsV RX14 95 RX15 yX15_sum wsX15_sum) := goodIn_app (goodIn_of _ (by decide +kernel)) ggX14_raking_X15_sum
theorem dX14_raking_34 : decode cX14_raking 34 = .ok (.invokevirtual 95, 3) := by decide +kernel
theorem dX14_raking_37 : decode cX14_raking 37 = .ok (.aload_n 0, 1) := by decide +kernel
theorem dX14_raking_38 : decode cX14_raking 38 = .ok (.getfield 17, 3) := by decide +kernel
theorem dX14_raking_41 : decode cX14_raking 41 = .ok (.iload_n 1, 1) := by decide +kernel
theorem dX14_raking_42 : decode cX14_raking 42 = .ok (.aaload, 1) := by decide +kernel
theorem dX14_raking_43 : decode cX14_raking 43 = .ok (.invokevirtual 95, 3) := by decide +kernel
theorem dX14_raking_46 : decode cX14_raking 46 = .ok (.isub, 1) := by decide +kernel
theorem dX14_raking_47 : decode cX14_raking 47 = .ok (.invokestatic 104, 3) := by decide +kernel
theorem dX14_raking_50 : decode cX14_raking 50 = .ok (.invokestatic 99, 3) := by decide +kernel
theorem dX14_raking_53 : decode cX14_raking 53 = .ok (.istore_n 2, 1) := by decide +kernel
theorem dX14_raking_54 : decode cX14_raking 54 = .ok (.iinc 3 1, 3) := by decide +kernel
theorem dX14_raking_57 : decode cX14_raking 57 = .ok (.goto (-53), 3) := by decide +kernel
theorem dX14_raking_22 : decode cX14_raking 22 = .ok (.iload_n 2, 1) := by decide +kernel
theorem dX14_raking_23 : decode cX14_raking 23 = .ok (.goto 30, 3) := by decide +kernel
theorem dX14_view_0 : decode cX14_view 0 = .ok (.iload_n 1, 1) := by decide +kernel
theorem dX14_view_1 : decode cX14_view 1 = .ok (.bipush 114, 2) := by decide +kernel
theorem dX14_view_3 : decode cX14_view 3 = .ok (.if_icmp .ne 11, 3) := by decide +kernel
theorem dX14_view_14 : decode cX14_view 14 = .ok (.aload_n 0, 1) := by decide +kernel
theorem dX14_view_15 : decode cX14_view 15 = .ok (.getfield 17, 3) := by decide +kernel
theorem dX14_view_18 : decode cX14_view 18 = .ok (.iload_n 2, 1) := by decide +kernel
theorem dX14_view_19 : decode cX14_view 19 = .ok (.aaload, 1) := by decide +kernel
theorem dX14_view_20 : decode cX14_view 20 = .ok (.iload_n 1, 1) := by decide +kernel
set_option maxRecDepth 20000 in
theorem ggX14_view_X15_view : GoodIn wsX14_view wsX15_view := goodIn_r _ [64, 26, 27, 65, 66, 9, 67, 68, 69, 70, 24, 71, 72, 73, 74, 31, 75, 76, 77, 78, 79, 80, 81, 82, 83, 84, 85, 86, 87, 88, 89, 90, 91, 92, 93, 28, 29, 30, 32, 33, 34, 35, 36, 37, 38, 39, 40, 41, 42, 43, 44, 45, 46, 47, 48, 49, 50, 51, 52, 53, 54, 55, 56, 57, 58, 59, 60, 94, 95, 96, 97, 98, 99, 100, 101, 108, 109, 110, 111, 112, 113, 114, 115, 123, 124, 125, 126, 127, 128, 129, 130, 131, 132, 120, 121, 122, 116, 117, 118, 119] (by decide +kernel) (by decide +kernel)
set_option maxRecDepth 20000 in
theorem gX14_view_X15_view : GoodIn wsX14_view (wsV RX14 111 RX15 yX15_view wsX15_view) := goodIn_app (goodIn_of _ (by decide +kernel)) ggX14_view_X15_view
theorem dX14_view_21 : decode cX14_view 21 = .ok (.invokevirtual 111, 3) := by decide +kernel
theorem dX14_view_24 : decode cX14_view 24 = .ok (.ireturn, 1) := by decide +kernel
theorem dX14_view_6 : decode cX14_view 6 = .ok (.aload_n 0, 1) := by decide +kernel
theorem dX14_view_7 : decode cX14_view 7 = .ok (.iload_n 2, 1) := by decide +kernel
set_option maxRecDepth 20000 in
theorem ggX14_view_X14_raking : GoodIn wsX14_view wsX14_raking := goodIn_r _ [6, 1, 7, 8, 9, 10, 11, 12, 13, 14, 15, 16, 5, 17, 18, 19, 20, 21, 22, 23, 24, 25, 26, 27, 28, 29, 30, 31, 32, 33, 34, 35, 36, 37, 38, 39, 40, 41, 42, 43, 44, 45, 46, 47, 48, 49, 50, 51, 52, 53, 54, 55, 56, 57, 58, 59, 60, 102, 103, 104, 105, 106, 107, 108, 109, 110, 111, 112, 113, 114, 115, 116, 117, 118, 119, 120, 121, 122] (by decide +kernel) (by decide +kernel)
set_option maxRecDepth 20000 in
theorem gX14_view_X14_raking : GoodIn wsX14_view (wsV RX14 108 RX14 yX14_raking wsX14_raking) := goodIn_app (goodIn_of _ (by decide +kernel)) ggX14_view_X14_raking
theorem dX14_view_8 : decode cX14_view 8 = .ok (.invokevirtual 108, 3) := by decide +kernel
theorem dX14_view_11 : decode cX14_view 11 = .ok (.goto 13, 3) := by decide +kernel
theorem dX18_view_0 : decode cX18_view 0 = .ok (.aload_n 0, 1) := by decide +kernel
theorem dX18_view_1 : decode cX18_view 1 = .ok (.iconst 0, 1) := by decide +kernel
theorem dX18_view_2 : decode cX18_view 2 = .ok (.putfield 67, 3) := by decide +kernel
theorem dX18_view_5 : decode cX18_view 5 = .ok (.iload_n 1, 1) := by decide +kernel
set_option maxRecDepth 20000 in
theorem ggX18_view_X18_isRay : GoodIn wsX18_view wsX18_isRay := goodIn_r _ [6, 7, 8, 9, 10, 11, 12, 13, 14, 15, 16, 17, 18, 19, 20, 21, 22, 23, 24, 25, 26, 27, 28, 29, 30, 31, 32, 33, 34, 35, 36, 37, 38, 39, 40, 41, 42, 43, 44, 45, 46, 47, 48, 49, 50, 51, 52, 53, 54, 55, 56, 57, 58, 59, 60, 61, 62, 63, 64, 65, 66, 67, 68, 69, 70, 71, 72, 73, 74, 75, 76, 77, 78, 79, 80, 81, 82, 83, 84, 85, 86, 87, 88, 89, 90, 91, 92, 93, 94, 95, 219, 220, 221, 222] (by decide +kernel) (by decide +kernel)
set_option maxRecDepth 20000 in
theorem gX18_view_X18_isRay : GoodIn wsX18_view (va_wsS RX18 179 yX18_isRay wsX18_isRay) := goodIn_app (goodIn_of _ (by decide +kernel)) ggX18_view_X18_isRay
theorem dX18_view_6 : decode cX18_view 6 = .ok (.invokestatic 179, 3) := by decide +kernel
theorem dX18_view_9 : decode cX18_view 9 = .ok (.ifCond .eq 28, 3) := by decide +kernel
theorem dX18_view_37 : decode cX18_view 37 = .ok (.aload_n 0, 1) := by decide +kernel
theorem dX18_view_38 : decode cX18_view 38 = .ok (.iconst 1, 1) := by decide +kernel
set_option maxRecDepth 20000 in
theorem ggX18_view_X18_fails : GoodIn wsX18_view wsX18_fails := goodIn_r _ [201, 1, 202, 203, 204, 205, 206, 207, 208, 209, 210, 211, 212, 213, 214, 215, 216, 217, 218] (by decide +kernel) (by decide +kernel)
set_option maxRecDepth 20000 in
theorem gX18_view_X18_fails : GoodIn wsX18_view (wsV RX18 88 RX18 yX18_fails wsX18_fails) := goodIn_app (goodIn_of _ (by decide +kernel)) ggX18_view_X18_fails
theorem dX18_view_39 : decode cX18_view 39 = .ok (.invokevirtual 88, 3) := by decide +kernel
theorem dX18_view_42 : decode cX18_view 42 = .ok (.ireturn, 1) := by decide +kernel
theorem dX18_view_12 : decode cX18_view 12 = .ok (.iload_n 2, 1) := by decide +kernel
theorem dX18_view_13 : decode cX18_view 13 = .ok (.iload_n 3, 1) := by decide +kernel
set_option maxRecDepth 20000 in
theorem ggX18_view_X18_isPlace : GoodIn wsX18_view wsX18_isPlace := goodIn_r _ [98, 99, 100, 5, 101] (by decide +kernel) (by decide +kernel)
set_option maxRecDepth 20000 in
theorem gX18_view_X18_isPlace : GoodIn wsX18_view (va_wsS RX18 124 yX18_isPlace wsX18_isPlace) := goodIn_app (goodIn_of _ (by decide +kernel)) ggX18_view_X18_isPlace
theorem dX18_view_14 : decode cX18_view 14 = .ok (.invokestatic 124, 3) := by decide +kernel
theorem dX18_view_17 : decode cX18_view 17 = .ok (.ifCond .eq 20, 3) := by decide +kernel
theorem dX18_view_20 : decode cX18_view 20 = .ok (.aload_n 0, 1) := by decide +kernel
theorem dX18_view_21 : decode cX18_view 21 = .ok (.getfield 25, 3) := by decide +kernel
theorem dX18_view_24 : decode cX18_view 24 = .ok (.iload_n 1, 1) := by decide +kernel
theorem dX18_view_25 : decode cX18_view 25 = .ok (.bipush 8, 2) := by decide +kernel
theorem dX18_view_27 : decode cX18_view 27 = .ok (.iload_n 3, 1) := by decide +kernel
theorem dX18_view_28 : decode cX18_view 28 = .ok (.imul, 1) := by decide +kernel
theorem dX18_view_29 : decode cX18_view 29 = .ok (.iload_n 2, 1) := by decide +kernel
theorem dX18_view_30 : decode cX18_view 30 = .ok (.iadd, 1) := by decide +kernel
set_option maxRecDepth 20000 in
theorem ggX18_view_X14_view : GoodIn wsX18_view wsX14_view := goodIn_r _ [106, 107, 108, 109, 110, 105, 111, 112, 113, 37, 114, 115, 36, 38, 116, 117, 118, 119, 100, 5, 101, 120, 121, 122, 123, 124, 125, 126, 127, 128, 129, 130, 131, 132, 133, 134, 135, 136, 137, 138, 139, 140, 141, 142, 143, 144, 145, 146, 147, 148, 149, 150, 151, 152, 153, 154, 155, 156, 157, 158, 159, 160, 161, 162, 163, 164, 40, 41, 165, 166, 167, 168, 169, 170, 171, 172, 173, 174, 175, 176, 177, 178, 179, 180, 181, 182, 183, 70, 184, 185, 186, 187, 188, 189, 190, 191, 192, 193, 194, 195, 196, 197, 223, 224, 225, 226, 227, 228, 229, 230, 231, 232, 233, 234, 235, 236, 237, 238, 239, 240, 241, 242, 243, 244, 245, 246, 247, 248, 249, 250, 251, 252, 253] (by decide +kernel) (by decide +kernel)
set_option maxRecDepth 20000 in
theorem gX18_view_X14_view : GoodIn wsX18_view (wsV RX18 183 RX14 yX14_view wsX14_view) := goodIn_app (goodIn_of _ (by decide +kernel)) ggX18_view_X14_view
theorem dX18_view_31 : decode cX18_view 31 = .ok (.invokevirtual 183, 3) := by decide +kernel
theorem dX18_view_34 : decode cX18_view 34 = .ok (.goto 8, 3) := by decide +kernel

set_option maxHeartbeats 4000000 in
set_option maxRecDepth 100000 in
/-- Place.sum() of a place without layers -/
theorem c_X15_sum (l : Launch) (dC : Nat → ClassId) (dI : Nat → Nat → Nat) (b0 : Nat) (en : EnT) (sz : Nat) (pa pl : Nat) (num : Int32) : Met l yX15_sum wsX15_sum ({ frames := 3, cells := 1, slots := 4, locals := 71 } : Room) (cP b0 en (dC, dI) [] [] [(pa, .inr (21, [.int num, .ref pl, .int 0])), (pl, .inr (5, [.int 0, .ref en.2.2.1, .int 0]))] sz (fun _ => True) [.ref pa]) (va_Qi (fun (r : Int32) (_ : Unit) => r = 0) (fun _ _ => True) (va_A [] sz)) 1 4 (va_A [] sz) := by
  refine Met.ofW (cc := cX15_sum) (maxL := 4) (ret := (some .int)) (by decide) rfl ?_
  intro p e s m args below meth c s₁ B hml hv
  obtain ⟨rfl, hsz, hb0, hE, hPP, hK, hDD, hF0⟩ := hv
  have hx := B.exec
  have hb := B.bytes
  have hr := B.returns
  have hts := atoms_spec (ws := wsX15_sum) B.pre
  have hown : s.vm.findClass RX15 = some m.cls := findClass_of_methodNamed B.named
  have hlocks := B.notSynchronized
  subst hsz
  have hN0 := en_N hPP hDD rfl
  have hP : va_P (dC, dI) vwCl [] s.heap := hPP.sub [] rfl
  have hR0 : va_P (dC, dI) vwCl [(pa, .inr (21, [.int num, .ref pl, .int 0])), (pl, .inr (5, [.int 0, .ref en.2.2.1, .int 0]))] s.heap := hPP.sub [0, 1] rfl
  have hD0 : va_D (fun q => b0 ≤ q) [] := hDD.sub [] (by decide) rfl
  have hDr : va_D (fun q => b0 ≤ q) [(pa, .inr (21, [.int num, .ref pl, .int 0])), (pl, .inr (5, [.int 0, .ref en.2.2.1, .int 0]))] := hDD.sub [0, 1] (by decide) rfl
  have hAb := en_A (sz := s.heap.size) hD0 hb0
  have hD := hD0.self (sz := s.heap.size)
  generalize hAe : va_A [] s.heap.size = A at hD hAb hN0 ⊢
  have hA : ∀ q : Nat, s.heap.size ≤ q → A q := fun q h => by rw [← hAe]; exact Or.inr h
  have hS : va_S A s.heap s.heap [] := va_S.rf
  have hR := hR0
  have hl := lv_entry [.ref pa] (n := 4) (Nat.le_of_ble_eq_true rfl)
  rw [lg_entry_eq]
  generalize (lg_sl [.ref pa] ++ List.replicate (4 - (lg_sl [.ref pa]).length) Slot.unset).toArray = ls at hl ⊢
  have hl : lv_has ls 4 [(0, .ref pa)] := hl
  refine lv_iconst (v := 0) hx hb dX15_sum_0 (by decide) ?_
  refine lv_istore_n (lv' := [(1, .int 0), (0, .ref pa)]) hx hb dX15_sum_1 rfl hl (by decide) rfl (fun ls hl => ?_)
  refine lv_aload_n hx hb dX15_sum_2 rfl (lv_at hl 1 rfl) ?_
  refine va_get (D := (dC, dI)) (ci := 21) (v := .ref pl) (C := RX15) (T := TX15) (N := 3) hx hb hts (by decide +kernel) hown hK hR 0 rfl rfl 1 (by decide) (hts (.fieldLink RX15 12 "UnderpaintModel$Place" "layers" "Ljava/util/List;") (by decide +kernel)) (fun _ h9 => h9) rfl dX15_sum_3 ?_
  have hPc := (hP.app hR).sub (ws' := [] ++ [(pl, .inr (5, [.int 0, .ref en.2.2.1, .int 0]))]) [1] rfl
  have hDc := (en_DD hD hDr hN0 hAb).sub (ws' := [] ++ [(pl, .inr (5, [.int 0, .ref en.2.2.1, .int 0]))]) [1] (by decide) rfl
  have hKc := hK.sub (tys' := []) [] rfl
  have hFc := va_free (wc := []) hD hS hA [] rfl
  refine va_callFr (va_runF (As := []) (rest := []) (hK.1 5 _ rfl).2 ⟨hx, hb, hml, hown, hts⟩ (c_iterator l dC dI b0 en s.heap.size pl en.2.2.1 0 0) (va_cwF 0 hts gX15_sum_Jx4a65c_iterator_32c93_f22Jx4a65c rfl rfl rfl (hE.face ("java/util/ArrayList", ⟨"java/util/List", "iterator", "()Ljava/util/Iterator;"⟩, ⟨"java/util/ArrayList", "iterator", "()Ljava/util/Iterator;"⟩) (by decide +kernel)) (by decide +kernel) ⟨Nat.le_of_ble_eq_true rfl, Nat.le_of_ble_eq_true rfl⟩) ⟨cP.blind, va_recv hK hR (ci := 5) (q0 := 1) rfl rfl, cP.use (en_z hb0 hS) (hE.on hAb hS) hPc hKc hDc trivial⟩ rfl rfl hl.1 rfl (lv_room (Nat.le_of_ble_eq_true rfl)) dX15_sum_6 ⟨Nat.le_of_ble_eq_true rfl, Nat.le_of_ble_eq_true rfl⟩) hS (fun q _ h => hFc q h) hFc (fun u r_1 t H1 locs ht hvm hw hB hz1 hk1 hS => ?_)
  obtain ⟨hP1, hK1, hD1, hF1⟩ := hB
  rw [ht] at hP1
  try rw [ht] at hF1
  have hK1 := va_K.moved hvm.symm hK1
  try dsimp only at hw
  obtain ⟨hP, hD⟩ := va_join (wr := []) (w1 := [(r_1, .inr (4, [.int 0, .int (-1), .int 0, .ref pl]))]) hP hD [] [] rfl rfl (by decide) (by decide) hk1 hFc hP1 hD1
  generalize H1 = H at hP hS ⊢
  have hP : va_P (dC, dI) vwCl [(r_1, .inr (4, [.int 0, .int (-1), .int 0, .ref pl]))] H := hP
  have hD : va_D A [(r_1, .inr (4, [.int 0, .int (-1), .int 0, .ref pl]))] := hD
  have hR := en_R hR0 hN0 hS
  refine W.widen (k := 1) (n := 4) (Nat.le_of_ble_eq_true rfl) (Nat.le_of_ble_eq_true rfl) ?_
  refine lv_astore_n (lv' := [(2, .ref r_1), (1, .int 0), (0, .ref pa)]) hx hb dX15_sum_11 rfl hl (by decide) rfl (fun ls hl => ?_)
  refine lv_aload_n hx hb dX15_sum_12 rfl (lv_at hl 0 rfl) ?_
  have hPc := (hP.app hR).sub (ws' := [] ++ [(r_1, .inr (4, [.int 0, .int (-1), .int 0, .ref pl])), (pl, .inr (5, [.int 0, .ref en.2.2.1, .int 0]))]) [0, 2] rfl
  have hDc := (en_DD hD hDr hN0 hAb).sub (ws' := [] ++ [(r_1, .inr (4, [.int 0, .int (-1), .int 0, .ref pl])), (pl, .inr (5, [.int 0, .ref en.2.2.1, .int 0]))]) [0, 2] (by decide) rfl
  have hKc := hK.sub (tys' := []) [] rfl
  have hFc := va_free (wc := []) hD hS hA [] rfl
  refine va_callFi (va_runF (As := []) (rest := []) (hK.1 4 _ rfl).2 ⟨hx, hb, hml, hown, hts⟩ (c_hasNext l dC dI b0 en H.size r_1 pl en.2.2.1 0 0) (va_cwF 0 hts gX15_sum_Jx35411_hasNext_aae02_f28Jx35411 rfl rfl rfl (hE.face ("java/util/ArrayList$Itr", ⟨"java/util/Iterator", "hasNext", "()Z"⟩, ⟨"java/util/ArrayList$Itr", "hasNext", "()Z"⟩) (by decide +kernel)) (by decide +kernel) ⟨Nat.le_of_ble_eq_true rfl, Nat.le_of_ble_eq_true rfl⟩) ⟨cP.blind, va_recv hK hP (ci := 4) (q0 := 0) rfl rfl, cP.use (en_z hb0 hS) (hE.on hAb hS) hPc hKc hDc trivial⟩ rfl rfl hl.1 rfl (lv_room (Nat.le_of_ble_eq_true rfl)) dX15_sum_13 ⟨Nat.le_of_ble_eq_true rfl, Nat.le_of_ble_eq_true rfl⟩) hS (fun q _ h => hFc q h) hFc (fun r_2 u t H1 locs ht hvm hw hB hz1 hk1 hS => ?_)
  have hP1 : va_P (dC, dI) vwCl [] H1 := fun k q h => by simp at h
  have hD1 : va_D (va_A [] H.size) [] := ⟨fun i j p q h => by simp at h, fun k q h => by simp at h⟩
  try dsimp only at hw
  obtain ⟨hP, hD⟩ := va_join (wr := [(r_1, .inr (4, [.int 0, .int (-1), .int 0, .ref pl]))]) (w1 := []) hP hD [] [0] rfl rfl (by decide) (by decide) hk1 hFc hP1 hD1
  generalize H1 = H at hP hS ⊢
  have hP : va_P (dC, dI) vwCl [(r_1, .inr (4, [.int 0, .int (-1), .int 0, .ref pl]))] H := hP
  have hD : va_D A [(r_1, .inr (4, [.int 0, .int (-1), .int 0, .ref pl]))] := hD
  have hR := en_R hR0 hN0 hS
  refine W.widen (k := 1) (n := 4) (Nat.le_of_ble_eq_true rfl) (Nat.le_of_ble_eq_true rfl) ?_
  subst r_2
  refine lv_if_eq (tgt := 41) hx hb dX15_sum_18 (by decide) (fun c_3 => ?_) (fun c_3 => absurd c_3 (by decide))
  refine lv_iload_n hx hb dX15_sum_41 rfl (lv_at hl 1 rfl) ?_
  refine W.widen (k := 1) (n := 4) (Nat.le_of_ble_eq_true rfl) (Nat.le_of_ble_eq_true rfl) ?_
  exact W.iret (v := 0) hx hb hr (fun t ht hW => ⟨⟨0, (), rfl, (z_c_X18_fails_14), trivial⟩, hS.F ht⟩) hS.2.2 dX15_sum_42
theorem z_c_X15_top_36   : (none : Option Nat) = none := by grind
set_option maxHeartbeats 4000000 in
set_option maxRecDepth 100000 in
/-- Place.top() of a place without layers -/
theorem c_X15_top (l : Launch) (dC : Nat → ClassId) (dI : Nat → Nat → Nat) (b0 : Nat) (en : EnT) (sz : Nat) (pa pl : Nat) (num : Int32) : Met l yX15_top wsX15_top ({ frames := 1, cells := 0, slots := 0, locals := 20 } : Room) (cP b0 en (dC, dI) [] [] [(pa, .inr (21, [.int num, .ref pl, .int 0])), (pl, .inr (5, [.int 0, .ref en.2.2.1, .int 0]))] sz (fun _ => True) [.ref pa]) (va_Qq (fun (r : Option Nat) (_ : Unit) => r = none) (fun _ _ => True) (va_A [] sz)) 0 0 (va_A [] sz) := by
  refine Met.ofW (cc := cX15_top) (maxL := 1) (ret := (some (.object "UnderpaintModel$Layer"))) (by decide) rfl ?_
  intro p e s m args below meth c s₁ B hml hv
  obtain ⟨rfl, hsz, hb0, hE, hPP, hK, hDD, hF0⟩ := hv
  have hx := B.exec
  have hb := B.bytes
  have hr := B.returns
  have hts := atoms_spec (ws := wsX15_top) B.pre
  have hown : s.vm.findClass RX15 = some m.cls := findClass_of_methodNamed B.named
  have hlocks := B.notSynchronized
  subst hsz
  have hN0 := en_N hPP hDD rfl
  have hP : va_P (dC, dI) vwCl [] s.heap := hPP.sub [] rfl
  have hR0 : va_P (dC, dI) vwCl [(pa, .inr (21, [.int num, .ref pl, .int 0])), (pl, .inr (5, [.int 0, .ref en.2.2.1, .int 0]))] s.heap := hPP.sub [0, 1] rfl
  have hD0 : va_D (fun q => b0 ≤ q) [] := hDD.sub [] (by decide) rfl
  have hDr : va_D (fun q => b0 ≤ q) [(pa, .inr (21, [.int num, .ref pl, .int 0])), (pl, .inr (5, [.int 0, .ref en.2.2.1, .int 0]))] := hDD.sub [0, 1] (by decide) rfl
  have hAb := en_A (sz := s.heap.size) hD0 hb0
  have hD := hD0.self (sz := s.heap.size)
  generalize hAe : va_A [] s.heap.size = A at hD hAb hN0 ⊢
  have hA : ∀ q : Nat, s.heap.size ≤ q → A q := fun q h => by rw [← hAe]; exact Or.inr h
  have hS : va_S A s.heap s.heap [] := va_S.rf
  have hR := hR0
  have hl := lv_entry [.ref pa] (n := 1) (Nat.le_of_ble_eq_true rfl)
  rw [lg_entry_eq]
  generalize (lg_sl [.ref pa] ++ List.replicate (1 - (lg_sl [.ref pa]).length) Slot.unset).toArray = ls at hl ⊢
  have hl : lv_has ls 1 [(0, .ref pa)] := hl
  refine lv_aload_n hx hb dX15_top_0 rfl (lv_at hl 0 rfl) ?_
  refine va_get (D := (dC, dI)) (ci := 21) (v := .ref pl) (C := RX15) (T := TX15) (N := 3) hx hb hts (by decide +kernel) hown hK hR 0 rfl rfl 1 (by decide) (hts (.fieldLink RX15 12 "UnderpaintModel$Place" "layers" "Ljava/util/List;") (by decide +kernel)) (fun _ h9 => h9) rfl dX15_top_1 ?_
  have hPc := (hP.app hR).sub (ws' := [] ++ [(pl, .inr (5, [.int 0, .ref en.2.2.1, .int 0]))]) [1] rfl
  have hDc := (en_DD hD hDr hN0 hAb).sub (ws' := [] ++ [(pl, .inr (5, [.int 0, .ref en.2.2.1, .int 0]))]) [1] (by decide) rfl
  have hKc := hK.sub (tys' := []) [] rfl
  have hFc := va_free (wc := []) hD hS hA [] rfl
  refine va_callFi (va_runF (As := []) (rest := []) (hK.1 5 _ rfl).2 ⟨hx, hb, hml, hown, hts⟩ (c_isEmpty0 l dC dI b0 en s.heap.size pl en.2.2.1 0) (va_cwF 0 hts gX15_top_Jx4a65c_isEmpty_aae02_f43Jx4a65c rfl rfl rfl (hE.face ("java/util/ArrayList", ⟨"java/util/List", "isEmpty", "()Z"⟩, ⟨"java/util/ArrayList", "isEmpty", "()Z"⟩) (by decide +kernel)) (by decide +kernel) ⟨Nat.le_of_ble_eq_true rfl, Nat.le_of_ble_eq_true rfl⟩) ⟨cP.blind, va_recv hK hR (ci := 5) (q0 := 1) rfl rfl, cP.use (en_z hb0 hS) (hE.on hAb hS) hPc hKc hDc trivial⟩ rfl rfl hl.1 rfl (lv_room (Nat.le_of_ble_eq_true rfl)) dX15_top_4 ⟨Nat.le_of_ble_eq_true rfl, Nat.le_of_ble_eq_true rfl⟩) hS (fun q _ h => hFc q h) hFc (fun r_1 u t H1 locs ht hvm hw hB hz1 hk1 hS => ?_)
  have hP1 : va_P (dC, dI) vwCl [] H1 := fun k q h => by simp at h
  have hD1 : va_D (va_A [] s.heap.size) [] := ⟨fun i j p q h => by simp at h, fun k q h => by simp at h⟩
  try dsimp only at hw
  obtain ⟨hP, hD⟩ := va_join (wr := []) (w1 := []) hP hD [] [] rfl rfl (by decide) (by decide) hk1 hFc hP1 hD1
  generalize H1 = H at hP hS ⊢
  have hP : va_P (dC, dI) vwCl [] H := hP
  have hD : va_D A [] := hD
  have hR := en_R hR0 hN0 hS
  refine W.widen (k := 0) (n := 0) (Nat.le_of_ble_eq_true rfl) (Nat.le_of_ble_eq_true rfl) ?_
  subst r_1
  refine lv_if_eq (tgt := 16) hx hb dX15_top_9 (by decide) (fun c_2 => absurd c_2 (by decide)) (fun c_2 => ?_)
  refine lv_null hx hb dX15_top_12 ?_
  refine lv_goto (tgt := 39) hx hb dX15_top_13 (by decide) ?_
  refine W.widen (k := 0) (n := 0) (Nat.le_of_ble_eq_true rfl) (Nat.le_of_ble_eq_true rfl) ?_
  exact W.aret (v := .null) hx hb hr (by first | exact Or.inl ⟨_, rfl⟩ | exact Or.inr ⟨_, rfl⟩) (by first | exact Or.inl rfl | exact va_rf_or _ | exact Or.inr ⟨_, rfl⟩) (fun t ht hW => ⟨⟨none, (), rfl, (z_c_X15_top_36), trivial⟩, hS.F ht⟩) hS.2.2 dX15_top_39
theorem z_c_X15_plain_37   : (50 : Int32) = 50 := by grind
set_option maxHeartbeats 4000000 in
set_option maxRecDepth 100000 in
/-- Place.plain() of a place without layers -/
theorem c_X15_plain (l : Launch) (dC : Nat → ClassId) (dI : Nat → Nat → Nat) (b0 : Nat) (en : EnT) (sz : Nat) (pa pl : Nat) (num : Int32) : Met l yX15_plain wsX15_plain ({ frames := 1, cells := 0, slots := 0, locals := 20 } : Room) (cP b0 en (dC, dI) [] [] [(pa, .inr (21, [.int num, .ref pl, .int 0])), (pl, .inr (5, [.int 0, .ref en.2.2.1, .int 0]))] sz (fun _ => True) [.ref pa]) (va_Qi (fun (r : Int32) (_ : Unit) => r = 50) (fun _ _ => True) (va_A [] sz)) 0 0 (va_A [] sz) := by
  refine Met.ofW (cc := cX15_plain) (maxL := 8) (ret := (some .int)) (by decide) rfl ?_
  intro p e s m args below meth c s₁ B hml hv
  obtain ⟨rfl, hsz, hb0, hE, hPP, hK, hDD, hF0⟩ := hv
  have hx := B.exec
  have hb := B.bytes
  have hr := B.returns
  have hts := atoms_spec (ws := wsX15_plain) B.pre
  have hown : s.vm.findClass RX15 = some m.cls := findClass_of_methodNamed B.named
  have hlocks := B.notSynchronized
  subst hsz
  have hN0 := en_N hPP hDD rfl
  have hP : va_P (dC, dI) vwCl [] s.heap := hPP.sub [] rfl
  have hR0 : va_P (dC, dI) vwCl [(pa, .inr (21, [.int num, .ref pl, .int 0])), (pl, .inr (5, [.int 0, .ref en.2.2.1, .int 0]))] s.heap := hPP.sub [0, 1] rfl
  have hD0 : va_D (fun q => b0 ≤ q) [] := hDD.sub [] (by decide) rfl
  have hDr : va_D (fun q => b0 ≤ q) [(pa, .inr (21, [.int num, .ref pl, .int 0])), (pl, .inr (5, [.int 0, .ref en.2.2.1, .int 0]))] := hDD.sub [0, 1] (by decide) rfl
  have hAb := en_A (sz := s.heap.size) hD0 hb0
  have hD := hD0.self (sz := s.heap.size)
  generalize hAe : va_A [] s.heap.size = A at hD hAb hN0 ⊢
  have hA : ∀ q : Nat, s.heap.size ≤ q → A q := fun q h => by rw [← hAe]; exact Or.inr h
  have hS : va_S A s.heap s.heap [] := va_S.rf
  have hR := hR0
  have hl := lv_entry [.ref pa] (n := 8) (Nat.le_of_ble_eq_true rfl)
  rw [lg_entry_eq]
  generalize (lg_sl [.ref pa] ++ List.replicate (8 - (lg_sl [.ref pa]).length) Slot.unset).toArray = ls at hl ⊢
  have hl : lv_has ls 8 [(0, .ref pa)] := hl
  refine lv_bipush (v := 100) hx hb dX15_plain_0 (by decide) ?_
  refine lv_istore_n (lv' := [(1, .int 100), (0, .ref pa)]) hx hb dX15_plain_2 rfl hl (by decide) rfl (fun ls hl => ?_)
  refine lv_iconst (v := 0) hx hb dX15_plain_3 (by decide) ?_
  refine lv_istore_n (lv' := [(2, .int 0), (1, .int 100), (0, .ref pa)]) hx hb dX15_plain_4 rfl hl (by decide) rfl (fun ls hl => ?_)
  refine lv_aload_n hx hb dX15_plain_5 rfl (lv_at hl 2 rfl) ?_
  refine va_get (D := (dC, dI)) (ci := 21) (v := .ref pl) (C := RX15) (T := TX15) (N := 3) hx hb hts (by decide +kernel) hown hK hR 0 rfl rfl 1 (by decide) (hts (.fieldLink RX15 12 "UnderpaintModel$Place" "layers" "Ljava/util/List;") (by decide +kernel)) (fun _ h9 => h9) rfl dX15_plain_6 ?_
  have hPc := (hP.app hR).sub (ws' := [] ++ [(pl, .inr (5, [.int 0, .ref en.2.2.1, .int 0]))]) [1] rfl
  have hDc := (en_DD hD hDr hN0 hAb).sub (ws' := [] ++ [(pl, .inr (5, [.int 0, .ref en.2.2.1, .int 0]))]) [1] (by decide) rfl
  have hKc := hK.sub (tys' := []) [] rfl
  have hFc := va_free (wc := []) hD hS hA [] rfl
  refine va_callFi (va_runF (As := []) (rest := []) (hK.1 5 _ rfl).2 ⟨hx, hb, hml, hown, hts⟩ (c_Jx4a65c_size l dC dI b0 en s.heap.size pl en.2.2.1 0 0) (va_cwF 0 hts gX15_plain_Jx4a65c_size_8abf5_f46Jx4a65c rfl rfl rfl (hE.face ("java/util/ArrayList", ⟨"java/util/List", "size", "()I"⟩, ⟨"java/util/ArrayList", "size", "()I"⟩) (by decide +kernel)) (by decide +kernel) ⟨Nat.le_of_ble_eq_true rfl, Nat.le_of_ble_eq_true rfl⟩) ⟨cP.blind, va_recv hK hR (ci := 5) (q0 := 1) rfl rfl, cP.use (en_z hb0 hS) (hE.on hAb hS) hPc hKc hDc trivial⟩ rfl rfl hl.1 rfl (lv_room (Nat.le_of_ble_eq_true rfl)) dX15_plain_9 ⟨Nat.le_of_ble_eq_true rfl, Nat.le_of_ble_eq_true rfl⟩) hS (fun q _ h => hFc q h) hFc (fun r_1 u t H1 locs ht hvm hw hB hz1 hk1 hS => ?_)
  have hP1 : va_P (dC, dI) vwCl [] H1 := fun k q h => by simp at h
  have hD1 : va_D (va_A [] s.heap.size) [] := ⟨fun i j p q h => by simp at h, fun k q h => by simp at h⟩
  try dsimp only at hw
  obtain ⟨hP, hD⟩ := va_join (wr := []) (w1 := []) hP hD [] [] rfl rfl (by decide) (by decide) hk1 hFc hP1 hD1
  generalize H1 = H at hP hS ⊢
  have hP : va_P (dC, dI) vwCl [] H := hP
  have hD : va_D A [] := hD
  have hR := en_R hR0 hN0 hS
  refine W.widen (k := 0) (n := 0) (Nat.le_of_ble_eq_true rfl) (Nat.le_of_ble_eq_true rfl) ?_
  subst r_1
  refine lv_iconst (v := 1) hx hb dX15_plain_14 (by decide) ?_
  refine lv_isub hx hb dX15_plain_15 ?_
  refine lv_topi (fun x_2 ex_2 => ?_)
  obtain rfl : x_2 = (-1) := ex_2.trans (by decide)
  refine lv_istore_n (lv' := [(3, .int (-1)), (2, .int 0), (1, .int 100), (0, .ref pa)]) hx hb dX15_plain_16 rfl hl (by decide) rfl (fun ls hl => ?_)
  refine lv_iload_n hx hb dX15_plain_17 rfl (lv_at hl 0 rfl) ?_
  refine lv_if_lt (tgt := 153) hx hb dX15_plain_18 (by decide) (fun c_3 => ?_) (fun c_3 => absurd c_3 (by decide))
  refine lv_iload_n hx hb dX15_plain_153 rfl (lv_at hl 1 rfl) ?_
  refine lv_bipush (v := 50) hx hb dX15_plain_154 (by decide) ?_
  refine lv_iload_n hx hb dX15_plain_156 rfl (lv_at hl 2 rfl) ?_
  refine lv_imul hx hb dX15_plain_157 ?_
  refine lv_topi (fun x_4 ex_4 => ?_)
  obtain rfl : x_4 = 5000 := ex_4.trans (by decide)
  refine lv_iadd hx hb dX15_plain_158 ?_
  refine lv_topi (fun x_5 ex_5 => ?_)
  obtain rfl : x_5 = 5000 := ex_5.trans (by decide)
  refine lv_bipush (v := 100) hx hb dX15_plain_159 (by decide) ?_
  refine lv_idiv hx hb dX15_plain_161 (by decide) ?_
  refine lv_topi (fun x_6 ex_6 => ?_)
  obtain rfl : x_6 = 50 := ex_6.trans (by decide)
  refine W.widen (k := 0) (n := 0) (Nat.le_of_ble_eq_true rfl) (Nat.le_of_ble_eq_true rfl) ?_
  exact W.iret (v := 50) hx hb hr (fun t ht hW => ⟨⟨50, (), rfl, (z_c_X15_plain_37), trivial⟩, hS.F ht⟩) hS.2.2 dX15_plain_162
theorem z_c_X15_view_38 (ray : Int32) (a_0 : ¬ ray = 112) (a_1 : ¬ ray = 119) (a_2 : ¬ ray = 104) : (0 : Int32) = if ray = 112 then 50 else if ray = 104 then -1 else 0 := by grind
theorem z_c_X15_view_39 (ray : Int32) (a_0 : ¬ ray = 112) (a_1 : ¬ ray = 119) (a_2 : ray = 104) : (-1 : Int32) = if ray = 112 then 50 else if ray = 104 then -1 else 0 := by grind
theorem z_c_X15_view_40 (ray : Int32) (a_0 : ¬ ray = 112) (a_1 : ray = 119) : (0 : Int32) = if ray = 112 then 50 else if ray = 104 then -1 else 0 := by grind
theorem z_c_X15_view_41 (ray : Int32) (a_0 : ray = 112) : (50 : Int32) = if ray = 112 then 50 else if ray = 104 then -1 else 0 := by grind
set_option maxHeartbeats 4000000 in
set_option maxRecDepth 100000 in
/-- Place.view(ray) of a place without layers -/
theorem c_X15_view (l : Launch) (dC : Nat → ClassId) (dI : Nat → Nat → Nat) (b0 : Nat) (en : EnT) (sz : Nat) (pa pl : Nat) (num : Int32) (ray : Int32) : Met l yX15_view wsX15_view ({ frames := 3, cells := 1, slots := 4, locals := 71 } : Room) (cP b0 en (dC, dI) [] [] [(pa, .inr (21, [.int num, .ref pl, .int 0])), (pl, .inr (5, [.int 0, .ref en.2.2.1, .int 0]))] sz (fun _ => True) [.ref pa, .int ray]) (va_Qi (fun (r : Int32) (_ : Unit) => r = if ray = 112 then 50 else if ray = 104 then -1 else 0) (fun _ _ => True) (va_A [] sz)) 1 4 (va_A [] sz) := by
  refine Met.ofW (cc := cX15_view) (maxL := 5) (ret := (some .int)) (by decide) rfl ?_
  intro p e s m args below meth c s₁ B hml hv
  obtain ⟨rfl, hsz, hb0, hE, hPP, hK, hDD, hF0⟩ := hv
  have hx := B.exec
  have hb := B.bytes
  have hr := B.returns
  have hts := atoms_spec (ws := wsX15_view) B.pre
  have hown : s.vm.findClass RX15 = some m.cls := findClass_of_methodNamed B.named
  have hlocks := B.notSynchronized
  subst hsz
  have hN0 := en_N hPP hDD rfl
  have hP : va_P (dC, dI) vwCl [] s.heap := hPP.sub [] rfl
  have hR0 : va_P (dC, dI) vwCl [(pa, .inr (21, [.int num, .ref pl, .int 0])), (pl, .inr (5, [.int 0, .ref en.2.2.1, .int 0]))] s.heap := hPP.sub [0, 1] rfl
  have hD0 : va_D (fun q => b0 ≤ q) [] := hDD.sub [] (by decide) rfl
  have hDr : va_D (fun q => b0 ≤ q) [(pa, .inr (21, [.int num, .ref pl, .int 0])), (pl, .inr (5, [.int 0, .ref en.2.2.1, .int 0]))] := hDD.sub [0, 1] (by decide) rfl
  have hAb := en_A (sz := s.heap.size) hD0 hb0
  have hD := hD0.self (sz := s.heap.size)
  generalize hAe : va_A [] s.heap.size = A at hD hAb hN0 ⊢
  have hA : ∀ q : Nat, s.heap.size ≤ q → A q := fun q h => by rw [← hAe]; exact Or.inr h
  have hS : va_S A s.heap s.heap [] := va_S.rf
  have hR := hR0
  have hl := lv_entry [.ref pa, .int ray] (n := 5) (Nat.le_of_ble_eq_true rfl)
  rw [lg_entry_eq]
  generalize (lg_sl [.ref pa, .int ray] ++ List.replicate (5 - (lg_sl [.ref pa, .int ray]).length) Slot.unset).toArray = ls at hl ⊢
  have hl : lv_has ls 5 [(0, .ref pa), (1, .int ray)] := hl
  refine lv_iload_n hx hb dX15_view_0 rfl (lv_at hl 1 rfl) ?_
  refine lv_bipush (v := 112) hx hb dX15_view_1 (by decide) ?_
  refine lv_icmp_ne (tgt := 11) hx hb dX15_view_3 (by decide) (fun c_1 => ?_) (fun c_1 => ?_)
  · skip
    refine lv_iload_n hx hb dX15_view_11 rfl (lv_at hl 1 rfl) ?_
    refine lv_bipush (v := 119) hx hb dX15_view_12 (by decide) ?_
    refine lv_icmp_ne (tgt := 74) hx hb dX15_view_14 (by decide) (fun c_2 => ?_) (fun c_2 => ?_)
    · skip
      refine lv_iload_n hx hb dX15_view_74 rfl (lv_at hl 1 rfl) ?_
      refine lv_bipush (v := 104) hx hb dX15_view_75 (by decide) ?_
      refine lv_icmp_ne (tgt := 141) hx hb dX15_view_77 (by decide) (fun c_3 => ?_) (fun c_3 => ?_)
      · skip
        refine lv_aload_n hx hb dX15_view_141 rfl (lv_at hl 0 rfl) ?_
        have hPc := (hP.app hR).sub (ws' := [] ++ [(pa, .inr (21, [.int num, .ref pl, .int 0])), (pl, .inr (5, [.int 0, .ref en.2.2.1, .int 0]))]) [0, 1] rfl
        have hDc := (en_DD hD hDr hN0 hAb).sub (ws' := [] ++ [(pa, .inr (21, [.int num, .ref pl, .int 0])), (pl, .inr (5, [.int 0, .ref en.2.2.1, .int 0]))]) [0, 1] (by decide) rfl
        have hKc := hK.sub (tys' := []) [] rfl
        have hFc := va_free (wc := []) hD hS hA [] rfl
        refine va_callq (va_runV (As := []) (rest := []) ⟨hx, hb, hml, hown, hts⟩ (c_X15_top l dC dI b0 en s.heap.size pa pl num) (cwV 0 hts gX15_view_X15_top rfl rfl rfl (by decide +kernel) ⟨Nat.le_of_ble_eq_true rfl, Nat.le_of_ble_eq_true rfl⟩) ⟨cP.blind, va_recv hK hR (ci := 21) (q0 := 0) rfl rfl, cP.use (en_z hb0 hS) (hE.on hAb hS) hPc hKc hDc trivial⟩ rfl rfl hl.1 rfl (lv_room (Nat.le_of_ble_eq_true rfl)) dX15_view_142 ⟨Nat.le_of_ble_eq_true rfl, Nat.le_of_ble_eq_true rfl⟩) hS (fun q _ h => hFc q h) hFc (fun r_4 u t H1 locs ht hvm hw hB hz1 hk1 hS => ?_)
        have hP1 : va_P (dC, dI) vwCl [] H1 := fun k q h => by simp at h
        have hD1 : va_D (va_A [] s.heap.size) [] := ⟨fun i j p q h => by simp at h, fun k q h => by simp at h⟩
        try dsimp only at hw
        obtain ⟨hP, hD⟩ := va_join (wr := []) (w1 := []) hP hD [] [] rfl rfl (by decide) (by decide) hk1 hFc hP1 hD1
        generalize H1 = H at hP hS ⊢
        have hP : va_P (dC, dI) vwCl [] H := hP
        have hD : va_D A [] := hD
        have hR := en_R hR0 hN0 hS
        refine W.widen (k := 0) (n := 0) (Nat.le_of_ble_eq_true rfl) (Nat.le_of_ble_eq_true rfl) ?_
        subst r_4
        refine lv_ifnonnullN hx hb dX15_view_145 ?_
        refine lv_iconst (v := 0) hx hb dX15_view_148 (by decide) ?_
        refine lv_goto (tgt := 175) hx hb dX15_view_149 (by decide) ?_
        refine W.widen (k := 1) (n := 4) (Nat.le_of_ble_eq_true rfl) (Nat.le_of_ble_eq_true rfl) ?_
        exact W.iret (v := 0) hx hb hr (fun t ht hW => ⟨⟨0, (), rfl, (z_c_X15_view_38 ray c_1 c_2 c_3), trivial⟩, hS.F ht⟩) hS.2.2 dX15_view_175
      · skip
        refine lv_iconst (v := (-1)) hx hb dX15_view_80 (by decide) ?_
        refine lv_istore_n (lv' := [(2, .int (-1)), (0, .ref pa), (1, .int ray)]) hx hb dX15_view_81 rfl hl (by decide) rfl (fun ls hl => ?_)
        refine lv_aload_n hx hb dX15_view_82 rfl (lv_at hl 1 rfl) ?_
        refine va_get (D := (dC, dI)) (ci := 21) (v := .ref pl) (C := RX15) (T := TX15) (N := 3) hx hb hts (by decide +kernel) hown hK hR 0 rfl rfl 1 (by decide) (hts (.fieldLink RX15 12 "UnderpaintModel$Place" "layers" "Ljava/util/List;") (by decide +kernel)) (fun _ h9 => h9) rfl dX15_view_83 ?_
        have hPc := (hP.app hR).sub (ws' := [] ++ [(pl, .inr (5, [.int 0, .ref en.2.2.1, .int 0]))]) [1] rfl
        have hDc := (en_DD hD hDr hN0 hAb).sub (ws' := [] ++ [(pl, .inr (5, [.int 0, .ref en.2.2.1, .int 0]))]) [1] (by decide) rfl
        have hKc := hK.sub (tys' := []) [] rfl
        have hFc := va_free (wc := []) hD hS hA [] rfl
        refine va_callFr (va_runF (As := []) (rest := []) (hK.1 5 _ rfl).2 ⟨hx, hb, hml, hown, hts⟩ (c_iterator l dC dI b0 en s.heap.size pl en.2.2.1 0 0) (va_cwF 0 hts gX15_view_Jx4a65c_iterator_32c93_f22Jx4a65c rfl rfl rfl (hE.face ("java/util/ArrayList", ⟨"java/util/List", "iterator", "()Ljava/util/Iterator;"⟩, ⟨"java/util/ArrayList", "iterator", "()Ljava/util/Iterator;"⟩) (by decide +kernel)) (by decide +kernel) ⟨Nat.le_of_ble_eq_true rfl, Nat.le_of_ble_eq_true rfl⟩) ⟨cP.blind, va_recv hK hR (ci := 5) (q0 := 1) rfl rfl, cP.use (en_z hb0 hS) (hE.on hAb hS) hPc hKc hDc trivial⟩ rfl rfl hl.1 rfl (lv_room (Nat.le_of_ble_eq_true rfl)) dX15_view_86 ⟨Nat.le_of_ble_eq_true rfl, Nat.le_of_ble_eq_true rfl⟩) hS (fun q _ h => hFc q h) hFc (fun u r_5 t H1 locs ht hvm hw hB hz1 hk1 hS => ?_)
        obtain ⟨hP1, hK1, hD1, hF1⟩ := hB
        rw [ht] at hP1
        try rw [ht] at hF1
        have hK1 := va_K.moved hvm.symm hK1
        try dsimp only at hw
        obtain ⟨hP, hD⟩ := va_join (wr := []) (w1 := [(r_5, .inr (4, [.int 0, .int (-1), .int 0, .ref pl]))]) hP hD [] [] rfl rfl (by decide) (by decide) hk1 hFc hP1 hD1
        generalize H1 = H at hP hS ⊢
        have hP : va_P (dC, dI) vwCl [(r_5, .inr (4, [.int 0, .int (-1), .int 0, .ref pl]))] H := hP
        have hD : va_D A [(r_5, .inr (4, [.int 0, .int (-1), .int 0, .ref pl]))] := hD
        have hR := en_R hR0 hN0 hS
        refine W.widen (k := 1) (n := 4) (Nat.le_of_ble_eq_true rfl) (Nat.le_of_ble_eq_true rfl) ?_
        refine lv_astore_n (lv' := [(3, .ref r_5), (2, .int (-1)), (0, .ref pa), (1, .int ray)]) hx hb dX15_view_91 rfl hl (by decide) rfl (fun ls hl => ?_)
        refine lv_aload_n hx hb dX15_view_92 rfl (lv_at hl 0 rfl) ?_
        have hPc := (hP.app hR).sub (ws' := [] ++ [(r_5, .inr (4, [.int 0, .int (-1), .int 0, .ref pl])), (pl, .inr (5, [.int 0, .ref en.2.2.1, .int 0]))]) [0, 2] rfl
        have hDc := (en_DD hD hDr hN0 hAb).sub (ws' := [] ++ [(r_5, .inr (4, [.int 0, .int (-1), .int 0, .ref pl])), (pl, .inr (5, [.int 0, .ref en.2.2.1, .int 0]))]) [0, 2] (by decide) rfl
        have hKc := hK.sub (tys' := []) [] rfl
        have hFc := va_free (wc := []) hD hS hA [] rfl
        refine va_callFi (va_runF (As := []) (rest := []) (hK.1 4 _ rfl).2 ⟨hx, hb, hml, hown, hts⟩ (c_hasNext l dC dI b0 en H.size r_5 pl en.2.2.1 0 0) (va_cwF 0 hts gX15_view_Jx35411_hasNext_aae02_f28Jx35411 rfl rfl rfl (hE.face ("java/util/ArrayList$Itr", ⟨"java/util/Iterator", "hasNext", "()Z"⟩, ⟨"java/util/ArrayList$Itr", "hasNext", "()Z"⟩) (by decide +kernel)) (by decide +kernel) ⟨Nat.le_of_ble_eq_true rfl, Nat.le_of_ble_eq_true rfl⟩) ⟨cP.blind, va_recv hK hP (ci := 4) (q0 := 0) rfl rfl, cP.use (en_z hb0 hS) (hE.on hAb hS) hPc hKc hDc trivial⟩ rfl rfl hl.1 rfl (lv_room (Nat.le_of_ble_eq_true rfl)) dX15_view_93 ⟨Nat.le_of_ble_eq_true rfl, Nat.le_of_ble_eq_true rfl⟩) hS (fun q _ h => hFc q h) hFc (fun r_6 u t H1 locs ht hvm hw hB hz1 hk1 hS => ?_)
        have hP1 : va_P (dC, dI) vwCl [] H1 := fun k q h => by simp at h
        have hD1 : va_D (va_A [] H.size) [] := ⟨fun i j p q h => by simp at h, fun k q h => by simp at h⟩
        try dsimp only at hw
        obtain ⟨hP, hD⟩ := va_join (wr := [(r_5, .inr (4, [.int 0, .int (-1), .int 0, .ref pl]))]) (w1 := []) hP hD [] [0] rfl rfl (by decide) (by decide) hk1 hFc hP1 hD1
        generalize H1 = H at hP hS ⊢
        have hP : va_P (dC, dI) vwCl [(r_5, .inr (4, [.int 0, .int (-1), .int 0, .ref pl]))] H := hP
        have hD : va_D A [(r_5, .inr (4, [.int 0, .int (-1), .int 0, .ref pl]))] := hD
        have hR := en_R hR0 hN0 hS
        refine W.widen (k := 1) (n := 4) (Nat.le_of_ble_eq_true rfl) (Nat.le_of_ble_eq_true rfl) ?_
        subst r_6
        refine lv_if_eq (tgt := 139) hx hb dX15_view_98 (by decide) (fun c_7 => ?_) (fun c_7 => absurd c_7 (by decide))
        refine lv_iload_n hx hb dX15_view_139 rfl (lv_at hl 1 rfl) ?_
        refine W.widen (k := 1) (n := 4) (Nat.le_of_ble_eq_true rfl) (Nat.le_of_ble_eq_true rfl) ?_
        exact W.iret (v := (-1)) hx hb hr (fun t ht hW => ⟨⟨(-1), (), rfl, (z_c_X15_view_39 ray c_1 c_2 c_3), trivial⟩, hS.F ht⟩) hS.2.2 dX15_view_140
    · skip
      refine lv_iconst (v := 0) hx hb dX15_view_17 (by decide) ?_
      refine lv_istore_n (lv' := [(2, .int 0), (0, .ref pa), (1, .int ray)]) hx hb dX15_view_18 rfl hl (by decide) rfl (fun ls hl => ?_)
      refine lv_aload_n hx hb dX15_view_19 rfl (lv_at hl 1 rfl) ?_
      refine va_get (D := (dC, dI)) (ci := 21) (v := .ref pl) (C := RX15) (T := TX15) (N := 3) hx hb hts (by decide +kernel) hown hK hR 0 rfl rfl 1 (by decide) (hts (.fieldLink RX15 12 "UnderpaintModel$Place" "layers" "Ljava/util/List;") (by decide +kernel)) (fun _ h9 => h9) rfl dX15_view_20 ?_
      have hPc := (hP.app hR).sub (ws' := [] ++ [(pl, .inr (5, [.int 0, .ref en.2.2.1, .int 0]))]) [1] rfl
      have hDc := (en_DD hD hDr hN0 hAb).sub (ws' := [] ++ [(pl, .inr (5, [.int 0, .ref en.2.2.1, .int 0]))]) [1] (by decide) rfl
      have hKc := hK.sub (tys' := []) [] rfl
      have hFc := va_free (wc := []) hD hS hA [] rfl
      refine va_callFr (va_runF (As := []) (rest := []) (hK.1 5 _ rfl).2 ⟨hx, hb, hml, hown, hts⟩ (c_iterator l dC dI b0 en s.heap.size pl en.2.2.1 0 0) (va_cwF 0 hts gX15_view_Jx4a65c_iterator_32c93_f22Jx4a65c rfl rfl rfl (hE.face ("java/util/ArrayList", ⟨"java/util/List", "iterator", "()Ljava/util/Iterator;"⟩, ⟨"java/util/ArrayList", "iterator", "()Ljava/util/Iterator;"⟩) (by decide +kernel)) (by decide +kernel) ⟨Nat.le_of_ble_eq_true rfl, Nat.le_of_ble_eq_true rfl⟩) ⟨cP.blind, va_recv hK hR (ci := 5) (q0 := 1) rfl rfl, cP.use (en_z hb0 hS) (hE.on hAb hS) hPc hKc hDc trivial⟩ rfl rfl hl.1 rfl (lv_room (Nat.le_of_ble_eq_true rfl)) dX15_view_23 ⟨Nat.le_of_ble_eq_true rfl, Nat.le_of_ble_eq_true rfl⟩) hS (fun q _ h => hFc q h) hFc (fun u r_8 t H1 locs ht hvm hw hB hz1 hk1 hS => ?_)
      obtain ⟨hP1, hK1, hD1, hF1⟩ := hB
      rw [ht] at hP1
      try rw [ht] at hF1
      have hK1 := va_K.moved hvm.symm hK1
      try dsimp only at hw
      obtain ⟨hP, hD⟩ := va_join (wr := []) (w1 := [(r_8, .inr (4, [.int 0, .int (-1), .int 0, .ref pl]))]) hP hD [] [] rfl rfl (by decide) (by decide) hk1 hFc hP1 hD1
      generalize H1 = H at hP hS ⊢
      have hP : va_P (dC, dI) vwCl [(r_8, .inr (4, [.int 0, .int (-1), .int 0, .ref pl]))] H := hP
      have hD : va_D A [(r_8, .inr (4, [.int 0, .int (-1), .int 0, .ref pl]))] := hD
      have hR := en_R hR0 hN0 hS
      refine W.widen (k := 1) (n := 4) (Nat.le_of_ble_eq_true rfl) (Nat.le_of_ble_eq_true rfl) ?_
      refine lv_astore_n (lv' := [(3, .ref r_8), (2, .int 0), (0, .ref pa), (1, .int ray)]) hx hb dX15_view_28 rfl hl (by decide) rfl (fun ls hl => ?_)
      refine lv_aload_n hx hb dX15_view_29 rfl (lv_at hl 0 rfl) ?_
      have hPc := (hP.app hR).sub (ws' := [] ++ [(r_8, .inr (4, [.int 0, .int (-1), .int 0, .ref pl])), (pl, .inr (5, [.int 0, .ref en.2.2.1, .int 0]))]) [0, 2] rfl
      have hDc := (en_DD hD hDr hN0 hAb).sub (ws' := [] ++ [(r_8, .inr (4, [.int 0, .int (-1), .int 0, .ref pl])), (pl, .inr (5, [.int 0, .ref en.2.2.1, .int 0]))]) [0, 2] (by decide) rfl
      have hKc := hK.sub (tys' := []) [] rfl
      have hFc := va_free (wc := []) hD hS hA [] rfl
      refine va_callFi (va_runF (As := []) (rest := []) (hK.1 4 _ rfl).2 ⟨hx, hb, hml, hown, hts⟩ (c_hasNext l dC dI b0 en H.size r_8 pl en.2.2.1 0 0) (va_cwF 0 hts gX15_view_Jx35411_hasNext_aae02_f28Jx35411 rfl rfl rfl (hE.face ("java/util/ArrayList$Itr", ⟨"java/util/Iterator", "hasNext", "()Z"⟩, ⟨"java/util/ArrayList$Itr", "hasNext", "()Z"⟩) (by decide +kernel)) (by decide +kernel) ⟨Nat.le_of_ble_eq_true rfl, Nat.le_of_ble_eq_true rfl⟩) ⟨cP.blind, va_recv hK hP (ci := 4) (q0 := 0) rfl rfl, cP.use (en_z hb0 hS) (hE.on hAb hS) hPc hKc hDc trivial⟩ rfl rfl hl.1 rfl (lv_room (Nat.le_of_ble_eq_true rfl)) dX15_view_30 ⟨Nat.le_of_ble_eq_true rfl, Nat.le_of_ble_eq_true rfl⟩) hS (fun q _ h => hFc q h) hFc (fun r_9 u t H1 locs ht hvm hw hB hz1 hk1 hS => ?_)
      have hP1 : va_P (dC, dI) vwCl [] H1 := fun k q h => by simp at h
      have hD1 : va_D (va_A [] H.size) [] := ⟨fun i j p q h => by simp at h, fun k q h => by simp at h⟩
      try dsimp only at hw
      obtain ⟨hP, hD⟩ := va_join (wr := [(r_8, .inr (4, [.int 0, .int (-1), .int 0, .ref pl]))]) (w1 := []) hP hD [] [0] rfl rfl (by decide) (by decide) hk1 hFc hP1 hD1
      generalize H1 = H at hP hS ⊢
      have hP : va_P (dC, dI) vwCl [(r_8, .inr (4, [.int 0, .int (-1), .int 0, .ref pl]))] H := hP
      have hD : va_D A [(r_8, .inr (4, [.int 0, .int (-1), .int 0, .ref pl]))] := hD
      have hR := en_R hR0 hN0 hS
      refine W.widen (k := 1) (n := 4) (Nat.le_of_ble_eq_true rfl) (Nat.le_of_ble_eq_true rfl) ?_
      subst r_9
      refine lv_if_eq (tgt := 69) hx hb dX15_view_35 (by decide) (fun c_10 => ?_) (fun c_10 => absurd c_10 (by decide))
      refine lv_iload_n hx hb dX15_view_69 rfl (lv_at hl 1 rfl) ?_
      refine lv_bipush (v := 10) hx hb dX15_view_70 (by decide) ?_
      refine lv_idiv hx hb dX15_view_72 (by decide) ?_
      refine lv_topi (fun x_11 ex_11 => ?_)
      obtain rfl : x_11 = 0 := ex_11.trans (by decide)
      refine W.widen (k := 1) (n := 4) (Nat.le_of_ble_eq_true rfl) (Nat.le_of_ble_eq_true rfl) ?_
      exact W.iret (v := 0) hx hb hr (fun t ht hW => ⟨⟨0, (), rfl, (z_c_X15_view_40 ray c_1 c_2), trivial⟩, hS.F ht⟩) hS.2.2 dX15_view_73
  · skip
    refine lv_aload_n hx hb dX15_view_6 rfl (lv_at hl 0 rfl) ?_
    have hPc := (hP.app hR).sub (ws' := [] ++ [(pa, .inr (21, [.int num, .ref pl, .int 0])), (pl, .inr (5, [.int 0, .ref en.2.2.1, .int 0]))]) [0, 1] rfl
    have hDc := (en_DD hD hDr hN0 hAb).sub (ws' := [] ++ [(pa, .inr (21, [.int num, .ref pl, .int 0])), (pl, .inr (5, [.int 0, .ref en.2.2.1, .int 0]))]) [0, 1] (by decide) rfl
    have hKc := hK.sub (tys' := []) [] rfl
    have hFc := va_free (wc := []) hD hS hA [] rfl
    refine va_calli (va_runV (As := []) (rest := []) ⟨hx, hb, hml, hown, hts⟩ (c_X15_plain l dC dI b0 en s.heap.size pa pl num) (cwV 0 hts gX15_view_X15_plain rfl rfl rfl (by decide +kernel) ⟨Nat.le_of_ble_eq_true rfl, Nat.le_of_ble_eq_true rfl⟩) ⟨cP.blind, va_recv hK hR (ci := 21) (q0 := 0) rfl rfl, cP.use (en_z hb0 hS) (hE.on hAb hS) hPc hKc hDc trivial⟩ rfl rfl hl.1 rfl (lv_room (Nat.le_of_ble_eq_true rfl)) dX15_view_7 ⟨Nat.le_of_ble_eq_true rfl, Nat.le_of_ble_eq_true rfl⟩) hS (fun q _ h => hFc q h) hFc (fun r_12 u t H1 locs ht hvm hw hB hz1 hk1 hS => ?_)
    have hP1 : va_P (dC, dI) vwCl [] H1 := fun k q h => by simp at h
    have hD1 : va_D (va_A [] s.heap.size) [] := ⟨fun i j p q h => by simp at h, fun k q h => by simp at h⟩
    try dsimp only at hw
    obtain ⟨hP, hD⟩ := va_join (wr := []) (w1 := []) hP hD [] [] rfl rfl (by decide) (by decide) hk1 hFc hP1 hD1
    generalize H1 = H at hP hS ⊢
    have hP : va_P (dC, dI) vwCl [] H := hP
    have hD : va_D A [] := hD
    have hR := en_R hR0 hN0 hS
    refine W.widen (k := 0) (n := 0) (Nat.le_of_ble_eq_true rfl) (Nat.le_of_ble_eq_true rfl) ?_
    subst r_12
    refine W.widen (k := 1) (n := 4) (Nat.le_of_ble_eq_true rfl) (Nat.le_of_ble_eq_true rfl) ?_
    exact W.iret (v := 50) hx hb hr (fun t ht hW => ⟨⟨50, (), rfl, (z_c_X15_view_41 ray c_1), trivial⟩, hS.F ht⟩) hS.2.2 dX15_view_10
theorem z_c_X14_neighbour_42 (pc : Int32) (sd : Int32) (x_1 : Int32) (x_4 : Int32) (x_5 : Int32) (x_8 : Int32) (r_9 : Int32) (a_0 : x_1 = pc - pc / 8 * 8) (a_1 : ¬ sd = 0) (a_2 : ¬ sd = 1) (a_3 : x_4 = x_1 + 0) (a_4 : x_5 = pc / 8) (a_5 : ¬ sd = 2) (a_6 : ¬ sd = 3) (a_7 : x_8 = x_5 + 0) (a_8 : r_9 = if 0 ≤ x_4 ∧ x_4 ≤ 7 then 1 else 0) (a_9 : r_9 = 0) : (-1 : Int32) = -1 ∨ (0 ≤ (-1 : Int32) ∧ (-1 : Int32) < 48) := by grind
theorem z_c_X14_neighbour_43 (pc : Int32) (sd : Int32) (x_1 : Int32) (x_4 : Int32) (x_5 : Int32) (x_8 : Int32) (r_9 : Int32) (r_12 : Int32) (a_0 : x_1 = pc - pc / 8 * 8) (a_1 : ¬ sd = 0) (a_2 : ¬ sd = 1) (a_3 : x_4 = x_1 + 0) (a_4 : x_5 = pc / 8) (a_5 : ¬ sd = 2) (a_6 : ¬ sd = 3) (a_7 : x_8 = x_5 + 0) (a_8 : r_9 = if 0 ≤ x_4 ∧ x_4 ≤ 7 then 1 else 0) (a_9 : ¬ r_9 = 0) (a_10 : r_12 = if 0 ≤ x_8 ∧ x_8 ≤ 5 then 1 else 0) (a_11 : r_12 = 0) : (-1 : Int32) = -1 ∨ (0 ≤ (-1 : Int32) ∧ (-1 : Int32) < 48) := by grind
theorem z_c_X14_neighbour_44 (pc : Int32) (sd : Int32) (x_1 : Int32) (x_4 : Int32) (x_5 : Int32) (x_8 : Int32) (r_9 : Int32) (r_12 : Int32) (x_15 : Int32) (x_16 : Int32) (a_0 : x_1 = pc - pc / 8 * 8) (a_1 : ¬ sd = 0) (a_2 : ¬ sd = 1) (a_3 : x_4 = x_1 + 0) (a_4 : x_5 = pc / 8) (a_5 : ¬ sd = 2) (a_6 : ¬ sd = 3) (a_7 : x_8 = x_5 + 0) (a_8 : r_9 = if 0 ≤ x_4 ∧ x_4 ≤ 7 then 1 else 0) (a_9 : ¬ r_9 = 0) (a_10 : r_12 = if 0 ≤ x_8 ∧ x_8 ≤ 5 then 1 else 0) (a_11 : ¬ r_12 = 0) (a_12 : x_15 = 8 * x_8) (a_13 : x_16 = x_15 + x_4) : x_16 = -1 ∨ (0 ≤ x_16 ∧ x_16 < 48) := by grind
theorem z_c_X14_neighbour_45 (pc : Int32) (sd : Int32) (x_1 : Int32) (x_4 : Int32) (x_5 : Int32) (x_17 : Int32) (r_18 : Int32) (a_0 : x_1 = pc - pc / 8 * 8) (a_1 : ¬ sd = 0) (a_2 : ¬ sd = 1) (a_3 : x_4 = x_1 + 0) (a_4 : x_5 = pc / 8) (a_5 : ¬ sd = 2) (a_6 : sd = 3) (a_7 : x_17 = x_5 + 1) (a_8 : r_18 = if 0 ≤ x_4 ∧ x_4 ≤ 7 then 1 else 0) (a_9 : r_18 = 0) : (-1 : Int32) = -1 ∨ (0 ≤ (-1 : Int32) ∧ (-1 : Int32) < 48) := by grind
theorem z_c_X14_neighbour_46 (pc : Int32) (sd : Int32) (x_1 : Int32) (x_4 : Int32) (x_5 : Int32) (x_17 : Int32) (r_18 : Int32) (r_21 : Int32) (a_0 : x_1 = pc - pc / 8 * 8) (a_1 : ¬ sd = 0) (a_2 : ¬ sd = 1) (a_3 : x_4 = x_1 + 0) (a_4 : x_5 = pc / 8) (a_5 : ¬ sd = 2) (a_6 : sd = 3) (a_7 : x_17 = x_5 + 1) (a_8 : r_18 = if 0 ≤ x_4 ∧ x_4 ≤ 7 then 1 else 0) (a_9 : ¬ r_18 = 0) (a_10 : r_21 = if 0 ≤ x_17 ∧ x_17 ≤ 5 then 1 else 0) (a_11 : r_21 = 0) : (-1 : Int32) = -1 ∨ (0 ≤ (-1 : Int32) ∧ (-1 : Int32) < 48) := by grind
theorem z_c_X14_neighbour_47 (pc : Int32) (sd : Int32) (x_1 : Int32) (x_4 : Int32) (x_5 : Int32) (x_17 : Int32) (r_18 : Int32) (r_21 : Int32) (x_24 : Int32) (x_25 : Int32) (a_0 : x_1 = pc - pc / 8 * 8) (a_1 : ¬ sd = 0) (a_2 : ¬ sd = 1) (a_3 : x_4 = x_1 + 0) (a_4 : x_5 = pc / 8) (a_5 : ¬ sd = 2) (a_6 : sd = 3) (a_7 : x_17 = x_5 + 1) (a_8 : r_18 = if 0 ≤ x_4 ∧ x_4 ≤ 7 then 1 else 0) (a_9 : ¬ r_18 = 0) (a_10 : r_21 = if 0 ≤ x_17 ∧ x_17 ≤ 5 then 1 else 0) (a_11 : ¬ r_21 = 0) (a_12 : x_24 = 8 * x_17) (a_13 : x_25 = x_24 + x_4) : x_25 = -1 ∨ (0 ≤ x_25 ∧ x_25 < 48) := by grind
theorem z_c_X14_neighbour_48 (pc : Int32) (sd : Int32) (x_1 : Int32) (x_4 : Int32) (x_5 : Int32) (x_26 : Int32) (r_27 : Int32) (a_0 : x_1 = pc - pc / 8 * 8) (a_1 : ¬ sd = 0) (a_2 : ¬ sd = 1) (a_3 : x_4 = x_1 + 0) (a_4 : x_5 = pc / 8) (a_5 : sd = 2) (a_6 : x_26 = x_5 + (-1)) (a_7 : r_27 = if 0 ≤ x_4 ∧ x_4 ≤ 7 then 1 else 0) (a_8 : r_27 = 0) : (-1 : Int32) = -1 ∨ (0 ≤ (-1 : Int32) ∧ (-1 : Int32) < 48) := by grind
theorem z_c_X14_neighbour_49 (pc : Int32) (sd : Int32) (x_1 : Int32) (x_4 : Int32) (x_5 : Int32) (x_26 : Int32) (r_27 : Int32) (r_30 : Int32) (a_0 : x_1 = pc - pc / 8 * 8) (a_1 : ¬ sd = 0) (a_2 : ¬ sd = 1) (a_3 : x_4 = x_1 + 0) (a_4 : x_5 = pc / 8) (a_5 : sd = 2) (a_6 : x_26 = x_5 + (-1)) (a_7 : r_27 = if 0 ≤ x_4 ∧ x_4 ≤ 7 then 1 else 0) (a_8 : ¬ r_27 = 0) (a_9 : r_30 = if 0 ≤ x_26 ∧ x_26 ≤ 5 then 1 else 0) (a_10 : r_30 = 0) : (-1 : Int32) = -1 ∨ (0 ≤ (-1 : Int32) ∧ (-1 : Int32) < 48) := by grind
theorem z_c_X14_neighbour_50 (pc : Int32) (sd : Int32) (x_1 : Int32) (x_4 : Int32) (x_5 : Int32) (x_26 : Int32) (r_27 : Int32) (r_30 : Int32) (x_33 : Int32) (x_34 : Int32) (a_0 : x_1 = pc - pc / 8 * 8) (a_1 : ¬ sd = 0) (a_2 : ¬ sd = 1) (a_3 : x_4 = x_1 + 0) (a_4 : x_5 = pc / 8) (a_5 : sd = 2) (a_6 : x_26 = x_5 + (-1)) (a_7 : r_27 = if 0 ≤ x_4 ∧ x_4 ≤ 7 then 1 else 0) (a_8 : ¬ r_27 = 0) (a_9 : r_30 = if 0 ≤ x_26 ∧ x_26 ≤ 5 then 1 else 0) (a_10 : ¬ r_30 = 0) (a_11 : x_33 = 8 * x_26) (a_12 : x_34 = x_33 + x_4) : x_34 = -1 ∨ (0 ≤ x_34 ∧ x_34 < 48) := by grind
theorem z_c_X14_neighbour_51 (pc : Int32) (sd : Int32) (x_1 : Int32) (x_35 : Int32) (x_36 : Int32) (x_39 : Int32) (r_40 : Int32) (a_0 : x_1 = pc - pc / 8 * 8) (a_1 : ¬ sd = 0) (a_2 : sd = 1) (a_3 : x_35 = x_1 + 1) (a_4 : x_36 = pc / 8) (a_5 : ¬ sd = 2) (a_6 : ¬ sd = 3) (a_7 : x_39 = x_36 + 0) (a_8 : r_40 = if 0 ≤ x_35 ∧ x_35 ≤ 7 then 1 else 0) (a_9 : r_40 = 0) : (-1 : Int32) = -1 ∨ (0 ≤ (-1 : Int32) ∧ (-1 : Int32) < 48) := by grind
theorem z_c_X14_neighbour_52 (pc : Int32) (sd : Int32) (x_1 : Int32) (x_35 : Int32) (x_36 : Int32) (x_39 : Int32) (r_40 : Int32) (r_43 : Int32) (a_0 : x_1 = pc - pc / 8 * 8) (a_1 : ¬ sd = 0) (a_2 : sd = 1) (a_3 : x_35 = x_1 + 1) (a_4 : x_36 = pc / 8) (a_5 : ¬ sd = 2) (a_6 : ¬ sd = 3) (a_7 : x_39 = x_36 + 0) (a_8 : r_40 = if 0 ≤ x_35 ∧ x_35 ≤ 7 then 1 else 0) (a_9 : ¬ r_40 = 0) (a_10 : r_43 = if 0 ≤ x_39 ∧ x_39 ≤ 5 then 1 else 0) (a_11 : r_43 = 0) : (-1 : Int32) = -1 ∨ (0 ≤ (-1 : Int32) ∧ (-1 : Int32) < 48) := by grind
theorem z_c_X14_neighbour_53 (pc : Int32) (sd : Int32) (x_1 : Int32) (x_35 : Int32) (x_36 : Int32) (x_39 : Int32) (r_40 : Int32) (r_43 : Int32) (x_46 : Int32) (x_47 : Int32) (a_0 : x_1 = pc - pc / 8 * 8) (a_1 : ¬ sd = 0) (a_2 : sd = 1) (a_3 : x_35 = x_1 + 1) (a_4 : x_36 = pc / 8) (a_5 : ¬ sd = 2) (a_6 : ¬ sd = 3) (a_7 : x_39 = x_36 + 0) (a_8 : r_40 = if 0 ≤ x_35 ∧ x_35 ≤ 7 then 1 else 0) (a_9 : ¬ r_40 = 0) (a_10 : r_43 = if 0 ≤ x_39 ∧ x_39 ≤ 5 then 1 else 0) (a_11 : ¬ r_43 = 0) (a_12 : x_46 = 8 * x_39) (a_13 : x_47 = x_46 + x_35) : x_47 = -1 ∨ (0 ≤ x_47 ∧ x_47 < 48) := by grind
theorem z_c_X14_neighbour_54 (pc : Int32) (sd : Int32) (x_1 : Int32) (x_35 : Int32) (x_36 : Int32) (x_48 : Int32) (r_49 : Int32) (a_0 : x_1 = pc - pc / 8 * 8) (a_1 : ¬ sd = 0) (a_2 : sd = 1) (a_3 : x_35 = x_1 + 1) (a_4 : x_36 = pc / 8) (a_5 : ¬ sd = 2) (a_6 : sd = 3) (a_7 : x_48 = x_36 + 1) (a_8 : r_49 = if 0 ≤ x_35 ∧ x_35 ≤ 7 then 1 else 0) (a_9 : r_49 = 0) : (-1 : Int32) = -1 ∨ (0 ≤ (-1 : Int32) ∧ (-1 : Int32) < 48) := by grind
theorem z_c_X14_neighbour_55 (pc : Int32) (sd : Int32) (x_1 : Int32) (x_35 : Int32) (x_36 : Int32) (x_48 : Int32) (r_49 : Int32) (r_52 : Int32) (a_0 : x_1 = pc - pc / 8 * 8) (a_1 : ¬ sd = 0) (a_2 : sd = 1) (a_3 : x_35 = x_1 + 1) (a_4 : x_36 = pc / 8) (a_5 : ¬ sd = 2) (a_6 : sd = 3) (a_7 : x_48 = x_36 + 1) (a_8 : r_49 = if 0 ≤ x_35 ∧ x_35 ≤ 7 then 1 else 0) (a_9 : ¬ r_49 = 0) (a_10 : r_52 = if 0 ≤ x_48 ∧ x_48 ≤ 5 then 1 else 0) (a_11 : r_52 = 0) : (-1 : Int32) = -1 ∨ (0 ≤ (-1 : Int32) ∧ (-1 : Int32) < 48) := by grind
theorem z_c_X14_neighbour_56 (pc : Int32) (sd : Int32) (x_1 : Int32) (x_35 : Int32) (x_36 : Int32) (x_48 : Int32) (r_49 : Int32) (r_52 : Int32) (x_55 : Int32) (x_56 : Int32) (a_0 : x_1 = pc - pc / 8 * 8) (a_1 : ¬ sd = 0) (a_2 : sd = 1) (a_3 : x_35 = x_1 + 1) (a_4 : x_36 = pc / 8) (a_5 : ¬ sd = 2) (a_6 : sd = 3) (a_7 : x_48 = x_36 + 1) (a_8 : r_49 = if 0 ≤ x_35 ∧ x_35 ≤ 7 then 1 else 0) (a_9 : ¬ r_49 = 0) (a_10 : r_52 = if 0 ≤ x_48 ∧ x_48 ≤ 5 then 1 else 0) (a_11 : ¬ r_52 = 0) (a_12 : x_55 = 8 * x_48) (a_13 : x_56 = x_55 + x_35) : x_56 = -1 ∨ (0 ≤ x_56 ∧ x_56 < 48) := by grind
theorem z_c_X14_neighbour_57 (pc : Int32) (sd : Int32) (x_1 : Int32) (x_35 : Int32) (x_36 : Int32) (x_57 : Int32) (r_58 : Int32) (a_0 : x_1 = pc - pc / 8 * 8) (a_1 : ¬ sd = 0) (a_2 : sd = 1) (a_3 : x_35 = x_1 + 1) (a_4 : x_36 = pc / 8) (a_5 : sd = 2) (a_6 : x_57 = x_36 + (-1)) (a_7 : r_58 = if 0 ≤ x_35 ∧ x_35 ≤ 7 then 1 else 0) (a_8 : r_58 = 0) : (-1 : Int32) = -1 ∨ (0 ≤ (-1 : Int32) ∧ (-1 : Int32) < 48) := by grind
theorem z_c_X14_neighbour_58 (pc : Int32) (sd : Int32) (x_1 : Int32) (x_35 : Int32) (x_36 : Int32) (x_57 : Int32) (r_58 : Int32) (r_61 : Int32) (a_0 : x_1 = pc - pc / 8 * 8) (a_1 : ¬ sd = 0) (a_2 : sd = 1) (a_3 : x_35 = x_1 + 1) (a_4 : x_36 = pc / 8) (a_5 : sd = 2) (a_6 : x_57 = x_36 + (-1)) (a_7 : r_58 = if 0 ≤ x_35 ∧ x_35 ≤ 7 then 1 else 0) (a_8 : ¬ r_58 = 0) (a_9 : r_61 = if 0 ≤ x_57 ∧ x_57 ≤ 5 then 1 else 0) (a_10 : r_61 = 0) : (-1 : Int32) = -1 ∨ (0 ≤ (-1 : Int32) ∧ (-1 : Int32) < 48) := by grind
theorem z_c_X14_neighbour_59 (pc : Int32) (sd : Int32) (x_1 : Int32) (x_35 : Int32) (x_36 : Int32) (x_57 : Int32) (r_58 : Int32) (r_61 : Int32) (x_64 : Int32) (x_65 : Int32) (a_0 : x_1 = pc - pc / 8 * 8) (a_1 : ¬ sd = 0) (a_2 : sd = 1) (a_3 : x_35 = x_1 + 1) (a_4 : x_36 = pc / 8) (a_5 : sd = 2) (a_6 : x_57 = x_36 + (-1)) (a_7 : r_58 = if 0 ≤ x_35 ∧ x_35 ≤ 7 then 1 else 0) (a_8 : ¬ r_58 = 0) (a_9 : r_61 = if 0 ≤ x_57 ∧ x_57 ≤ 5 then 1 else 0) (a_10 : ¬ r_61 = 0) (a_11 : x_64 = 8 * x_57) (a_12 : x_65 = x_64 + x_35) : x_65 = -1 ∨ (0 ≤ x_65 ∧ x_65 < 48) := by grind
theorem z_c_X14_neighbour_60 (pc : Int32) (sd : Int32) (x_1 : Int32) (x_66 : Int32) (x_67 : Int32) (x_70 : Int32) (r_71 : Int32) (a_0 : x_1 = pc - pc / 8 * 8) (a_1 : sd = 0) (a_2 : x_66 = x_1 + (-1)) (a_3 : x_67 = pc / 8) (a_4 : ¬ sd = 2) (a_5 : ¬ sd = 3) (a_6 : x_70 = x_67 + 0) (a_7 : r_71 = if 0 ≤ x_66 ∧ x_66 ≤ 7 then 1 else 0) (a_8 : r_71 = 0) : (-1 : Int32) = -1 ∨ (0 ≤ (-1 : Int32) ∧ (-1 : Int32) < 48) := by grind
theorem z_c_X14_neighbour_61 (pc : Int32) (sd : Int32) (x_1 : Int32) (x_66 : Int32) (x_67 : Int32) (x_70 : Int32) (r_71 : Int32) (r_74 : Int32) (a_0 : x_1 = pc - pc / 8 * 8) (a_1 : sd = 0) (a_2 : x_66 = x_1 + (-1)) (a_3 : x_67 = pc / 8) (a_4 : ¬ sd = 2) (a_5 : ¬ sd = 3) (a_6 : x_70 = x_67 + 0) (a_7 : r_71 = if 0 ≤ x_66 ∧ x_66 ≤ 7 then 1 else 0) (a_8 : ¬ r_71 = 0) (a_9 : r_74 = if 0 ≤ x_70 ∧ x_70 ≤ 5 then 1 else 0) (a_10 : r_74 = 0) : (-1 : Int32) = -1 ∨ (0 ≤ (-1 : Int32) ∧ (-1 : Int32) < 48) := by grind
theorem z_c_X14_neighbour_62 (pc : Int32) (sd : Int32) (x_1 : Int32) (x_66 : Int32) (x_67 : Int32) (x_70 : Int32) (r_71 : Int32) (r_74 : Int32) (x_77 : Int32) (x_78 : Int32) (a_0 : x_1 = pc - pc / 8 * 8) (a_1 : sd = 0) (a_2 : x_66 = x_1 + (-1)) (a_3 : x_67 = pc / 8) (a_4 : ¬ sd = 2) (a_5 : ¬ sd = 3) (a_6 : x_70 = x_67 + 0) (a_7 : r_71 = if 0 ≤ x_66 ∧ x_66 ≤ 7 then 1 else 0) (a_8 : ¬ r_71 = 0) (a_9 : r_74 = if 0 ≤ x_70 ∧ x_70 ≤ 5 then 1 else 0) (a_10 : ¬ r_74 = 0) (a_11 : x_77 = 8 * x_70) (a_12 : x_78 = x_77 + x_66) : x_78 = -1 ∨ (0 ≤ x_78 ∧ x_78 < 48) := by grind
theorem z_c_X14_neighbour_63 (pc : Int32) (sd : Int32) (x_1 : Int32) (x_66 : Int32) (x_67 : Int32) (x_79 : Int32) (r_80 : Int32) (a_0 : x_1 = pc - pc / 8 * 8) (a_1 : sd = 0) (a_2 : x_66 = x_1 + (-1)) (a_3 : x_67 = pc / 8) (a_4 : ¬ sd = 2) (a_5 : sd = 3) (a_6 : x_79 = x_67 + 1) (a_7 : r_80 = if 0 ≤ x_66 ∧ x_66 ≤ 7 then 1 else 0) (a_8 : r_80 = 0) : (-1 : Int32) = -1 ∨ (0 ≤ (-1 : Int32) ∧ (-1 : Int32) < 48) := by grind
theorem z_c_X14_neighbour_64 (pc : Int32) (sd : Int32) (x_1 : Int32) (x_66 : Int32) (x_67 : Int32) (x_79 : Int32) (r_80 : Int32) (r_83 : Int32) (a_0 : x_1 = pc - pc / 8 * 8) (a_1 : sd = 0) (a_2 : x_66 = x_1 + (-1)) (a_3 : x_67 = pc / 8) (a_4 : ¬ sd = 2) (a_5 : sd = 3) (a_6 : x_79 = x_67 + 1) (a_7 : r_80 = if 0 ≤ x_66 ∧ x_66 ≤ 7 then 1 else 0) (a_8 : ¬ r_80 = 0) (a_9 : r_83 = if 0 ≤ x_79 ∧ x_79 ≤ 5 then 1 else 0) (a_10 : r_83 = 0) : (-1 : Int32) = -1 ∨ (0 ≤ (-1 : Int32) ∧ (-1 : Int32) < 48) := by grind
theorem z_c_X14_neighbour_65 (pc : Int32) (sd : Int32) (x_1 : Int32) (x_66 : Int32) (x_67 : Int32) (x_79 : Int32) (r_80 : Int32) (r_83 : Int32) (x_86 : Int32) (x_87 : Int32) (a_0 : x_1 = pc - pc / 8 * 8) (a_1 : sd = 0) (a_2 : x_66 = x_1 + (-1)) (a_3 : x_67 = pc / 8) (a_4 : ¬ sd = 2) (a_5 : sd = 3) (a_6 : x_79 = x_67 + 1) (a_7 : r_80 = if 0 ≤ x_66 ∧ x_66 ≤ 7 then 1 else 0) (a_8 : ¬ r_80 = 0) (a_9 : r_83 = if 0 ≤ x_79 ∧ x_79 ≤ 5 then 1 else 0) (a_10 : ¬ r_83 = 0) (a_11 : x_86 = 8 * x_79) (a_12 : x_87 = x_86 + x_66) : x_87 = -1 ∨ (0 ≤ x_87 ∧ x_87 < 48) := by grind
theorem z_c_X14_neighbour_66 (pc : Int32) (sd : Int32) (x_1 : Int32) (x_66 : Int32) (x_67 : Int32) (x_88 : Int32) (r_89 : Int32) (a_0 : x_1 = pc - pc / 8 * 8) (a_1 : sd = 0) (a_2 : x_66 = x_1 + (-1)) (a_3 : x_67 = pc / 8) (a_4 : sd = 2) (a_5 : x_88 = x_67 + (-1)) (a_6 : r_89 = if 0 ≤ x_66 ∧ x_66 ≤ 7 then 1 else 0) (a_7 : r_89 = 0) : (-1 : Int32) = -1 ∨ (0 ≤ (-1 : Int32) ∧ (-1 : Int32) < 48) := by grind
theorem z_c_X14_neighbour_67 (pc : Int32) (sd : Int32) (x_1 : Int32) (x_66 : Int32) (x_67 : Int32) (x_88 : Int32) (r_89 : Int32) (r_92 : Int32) (a_0 : x_1 = pc - pc / 8 * 8) (a_1 : sd = 0) (a_2 : x_66 = x_1 + (-1)) (a_3 : x_67 = pc / 8) (a_4 : sd = 2) (a_5 : x_88 = x_67 + (-1)) (a_6 : r_89 = if 0 ≤ x_66 ∧ x_66 ≤ 7 then 1 else 0) (a_7 : ¬ r_89 = 0) (a_8 : r_92 = if 0 ≤ x_88 ∧ x_88 ≤ 5 then 1 else 0) (a_9 : r_92 = 0) : (-1 : Int32) = -1 ∨ (0 ≤ (-1 : Int32) ∧ (-1 : Int32) < 48) := by grind
theorem z_c_X14_neighbour_68 (pc : Int32) (sd : Int32) (x_1 : Int32) (x_66 : Int32) (x_67 : Int32) (x_88 : Int32) (r_89 : Int32) (r_92 : Int32) (x_95 : Int32) (x_96 : Int32) (a_0 : x_1 = pc - pc / 8 * 8) (a_1 : sd = 0) (a_2 : x_66 = x_1 + (-1)) (a_3 : x_67 = pc / 8) (a_4 : sd = 2) (a_5 : x_88 = x_67 + (-1)) (a_6 : r_89 = if 0 ≤ x_66 ∧ x_66 ≤ 7 then 1 else 0) (a_7 : ¬ r_89 = 0) (a_8 : r_92 = if 0 ≤ x_88 ∧ x_88 ≤ 5 then 1 else 0) (a_9 : ¬ r_92 = 0) (a_10 : x_95 = 8 * x_88) (a_11 : x_96 = x_95 + x_66) : x_96 = -1 ∨ (0 ≤ x_96 ∧ x_96 < 48) := by grind
set_option maxHeartbeats 4000000 in
set_option maxRecDepth 100000 in
/-- Picture.neighbour: none, or a place -/
theorem c_X14_neighbour (l : Launch) (dC : Nat → ClassId) (dI : Nat → Nat → Nat) (b0 : Nat) (en : EnT) (sz : Nat) (pic : Nat) (pc sd : Int32) : Met l yX14_neighbour wsX14_neighbour ({ frames := 1, cells := 0, slots := 0, locals := 22 } : Room) (cP b0 en (dC, dI) [] [] [] sz (fun _ => True) [.ref pic, .int pc, .int sd]) (va_Qi (fun (r : Int32) (_ : Unit) => r = -1 ∨ (0 ≤ r ∧ r < 48)) (fun _ _ => True) (va_A [] sz)) 0 0 (va_A [] sz) := by
  refine Met.ofW (cc := cX14_neighbour) (maxL := 5) (ret := (some .int)) (by decide) rfl ?_
  intro p e s m args below meth c s₁ B hml hv
  obtain ⟨rfl, hsz, hb0, hE, hPP, hK, hDD, hF0⟩ := hv
  have hx := B.exec
  have hb := B.bytes
  have hr := B.returns
  have hts := atoms_spec (ws := wsX14_neighbour) B.pre
  have hown : s.vm.findClass RX14 = some m.cls := findClass_of_methodNamed B.named
  have hlocks := B.notSynchronized
  subst hsz
  have hN0 := en_N hPP hDD rfl
  have hP : va_P (dC, dI) vwCl [] s.heap := hPP.sub [] rfl
  have hR0 : va_P (dC, dI) vwCl [] s.heap := hPP.sub [] rfl
  have hD0 : va_D (fun q => b0 ≤ q) [] := hDD.sub [] (by decide) rfl
  have hDr : va_D (fun q => b0 ≤ q) [] := hDD.sub [] (by decide) rfl
  have hAb := en_A (sz := s.heap.size) hD0 hb0
  have hD := hD0.self (sz := s.heap.size)
  generalize hAe : va_A [] s.heap.size = A at hD hAb hN0 ⊢
  have hA : ∀ q : Nat, s.heap.size ≤ q → A q := fun q h => by rw [← hAe]; exact Or.inr h
  have hS : va_S A s.heap s.heap [] := va_S.rf
  have hR := hR0
  have hl := lv_entry [.ref pic, .int pc, .int sd] (n := 5) (Nat.le_of_ble_eq_true rfl)
  rw [lg_entry_eq]
  generalize (lg_sl [.ref pic, .int pc, .int sd] ++ List.replicate (5 - (lg_sl [.ref pic, .int pc, .int sd]).length) Slot.unset).toArray = ls at hl ⊢
  have hl : lv_has ls 5 [(0, .ref pic), (1, .int pc), (2, .int sd)] := hl
  refine lv_iload_n hx hb dX14_neighbour_0 rfl (lv_at hl 1 rfl) ?_
  refine lv_bipush (v := 8) hx hb dX14_neighbour_1 (by decide) ?_
  refine lv_irem hx hb dX14_neighbour_3 (by decide) ?_
  refine lv_topi (fun x_1 ex_1 => ?_)
  refine lv_iload_n hx hb dX14_neighbour_4 rfl (lv_at hl 2 rfl) ?_
  refine lv_if_ne (tgt := 12) hx hb dX14_neighbour_5 (by decide) (fun c_2 => ?_) (fun c_2 => ?_)
  · skip
    refine lv_iload_n hx hb dX14_neighbour_12 rfl (lv_at hl 2 rfl) ?_
    refine lv_iconst (v := 1) hx hb dX14_neighbour_13 (by decide) ?_
    refine lv_icmp_ne (tgt := 21) hx hb dX14_neighbour_14 (by decide) (fun c_3 => ?_) (fun c_3 => ?_)
    · skip
      refine lv_iconst (v := 0) hx hb dX14_neighbour_21 (by decide) ?_
      refine lv_iadd hx hb dX14_neighbour_22 ?_
      refine lv_topi (fun x_4 ex_4 => ?_)
      refine lv_istore_n (lv' := [(3, .int x_4), (0, .ref pic), (1, .int pc), (2, .int sd)]) hx hb dX14_neighbour_23 rfl hl (by decide) rfl (fun ls hl => ?_)
      refine lv_iload_n hx hb dX14_neighbour_24 rfl (lv_at hl 2 rfl) ?_
      refine lv_bipush (v := 8) hx hb dX14_neighbour_25 (by decide) ?_
      refine lv_idiv hx hb dX14_neighbour_27 (by decide) ?_
      refine lv_topi (fun x_5 ex_5 => ?_)
      refine lv_iload_n hx hb dX14_neighbour_28 rfl (lv_at hl 3 rfl) ?_
      refine lv_iconst (v := 2) hx hb dX14_neighbour_29 (by decide) ?_
      refine lv_icmp_ne (tgt := 37) hx hb dX14_neighbour_30 (by decide) (fun c_6 => ?_) (fun c_6 => ?_)
      · skip
        refine lv_iload_n hx hb dX14_neighbour_37 rfl (lv_at hl 3 rfl) ?_
        refine lv_iconst (v := 3) hx hb dX14_neighbour_38 (by decide) ?_
        refine lv_icmp_ne (tgt := 46) hx hb dX14_neighbour_39 (by decide) (fun c_7 => ?_) (fun c_7 => ?_)
        · skip
          refine lv_iconst (v := 0) hx hb dX14_neighbour_46 (by decide) ?_
          refine lv_iadd hx hb dX14_neighbour_47 ?_
          refine lv_topi (fun x_8 ex_8 => ?_)
          refine lv_istore (lv' := [(4, .int x_8), (3, .int x_4), (0, .ref pic), (1, .int pc), (2, .int sd)]) hx hb dX14_neighbour_48 hl (by decide) rfl (fun ls hl => ?_)
          refine lv_iload_n hx hb dX14_neighbour_50 rfl (lv_at hl 1 rfl) ?_
          refine lv_iconst (v := 0) hx hb dX14_neighbour_51 (by decide) ?_
          refine lv_bipush (v := 7) hx hb dX14_neighbour_52 (by decide) ?_
          have hPc := (hP.app hR).sub (ws' := [] ++ []) [] rfl
          have hDc := (en_DD hD hDr hN0 hAb).sub (ws' := [] ++ []) [] (by decide) rfl
          have hKc := hK.sub (tys' := []) [] rfl
          have hFc := va_free (wc := []) hD hS hA [] rfl
          refine va_calli (va_runSN (As := [.int x_4, .int 0, .int 7]) (rest := []) ⟨hx, hb, hml, hown, hts⟩ (c_X18_in l dC dI b0 en s.heap.size x_4 0 7) ⟨va_cnB 3 hts gX14_neighbour_X18_in_n87 rfl rfl rfl (hE.nm ("UnderpaintModel$Picture", 87, ⟨"UnderpaintModel", "in", "(III)Z"⟩, "UnderpaintModel") (by decide +kernel)) (hts (.initialized RX18) (by decide +kernel)) (by decide +kernel) ⟨Nat.le_of_ble_eq_true rfl, Nat.le_of_ble_eq_true rfl⟩, hts (.static yX18_in) (by decide +kernel), trivial⟩ ⟨cP.blind, cP.use (en_z hb0 hS) (hE.on hAb hS) hPc hKc hDc trivial⟩ rfl rfl hl.1 rfl (lv_room (Nat.le_of_ble_eq_true rfl)) dX14_neighbour_54 ⟨Nat.le_of_ble_eq_true rfl, Nat.le_of_ble_eq_true rfl⟩) hS (fun q _ h => hFc q h) hFc (fun r_9 u t H1 locs ht hvm hw hB hz1 hk1 hS => ?_)
          have hP1 : va_P (dC, dI) vwCl [] H1 := fun k q h => by simp at h
          have hD1 : va_D (va_A [] s.heap.size) [] := ⟨fun i j p q h => by simp at h, fun k q h => by simp at h⟩
          try dsimp only at hw
          obtain ⟨hP, hD⟩ := va_join (wr := []) (w1 := []) hP hD [] [] rfl rfl (by decide) (by decide) hk1 hFc hP1 hD1
          generalize H1 = H at hP hS ⊢
          have hP : va_P (dC, dI) vwCl [] H := hP
          have hD : va_D A [] := hD
          have hR : va_P (dC, dI) vwCl [] H := fun k q h => by simp at h
          refine W.widen (k := 0) (n := 0) (Nat.le_of_ble_eq_true rfl) (Nat.le_of_ble_eq_true rfl) ?_
          have h_10 := hw
          refine lv_if_eq (tgt := 80) hx hb dX14_neighbour_57 (by decide) (fun c_11 => ?_) (fun c_11 => ?_)
          · skip
            refine lv_iconst (v := (-1)) hx hb dX14_neighbour_80 (by decide) ?_
            refine W.widen (k := 0) (n := 0) (Nat.le_of_ble_eq_true rfl) (Nat.le_of_ble_eq_true rfl) ?_
            exact W.iret (v := (-1)) hx hb hr (fun t ht hW => ⟨⟨(-1), (), rfl, (z_c_X14_neighbour_42 pc sd x_1 x_4 x_5 x_8 r_9 ex_1 c_2 c_3 ex_4 ex_5 c_6 c_7 ex_8 h_10 c_11), trivial⟩, hS.F ht⟩) hS.2.2 dX14_neighbour_81
          · skip
            refine lv_iload hx hb dX14_neighbour_60 (lv_at hl 0 rfl) ?_
            refine lv_iconst (v := 0) hx hb dX14_neighbour_62 (by decide) ?_
            refine lv_iconst (v := 5) hx hb dX14_neighbour_63 (by decide) ?_
            have hPc := (hP.app hR).sub (ws' := [] ++ []) [] rfl
            have hDc := (en_DD hD hDr hN0 hAb).sub (ws' := [] ++ []) [] (by decide) rfl
            have hKc := hK.sub (tys' := []) [] rfl
            have hFc := va_free (wc := []) hD hS hA [] rfl
            refine va_calli (va_runSN (As := [.int x_8, .int 0, .int 5]) (rest := []) ⟨hx, hb, hml, hown, hts⟩ (c_X18_in l dC dI b0 en H.size x_8 0 5) ⟨va_cnB 3 hts gX14_neighbour_X18_in_n87 rfl rfl rfl (hE.nm ("UnderpaintModel$Picture", 87, ⟨"UnderpaintModel", "in", "(III)Z"⟩, "UnderpaintModel") (by decide +kernel)) (hts (.initialized RX18) (by decide +kernel)) (by decide +kernel) ⟨Nat.le_of_ble_eq_true rfl, Nat.le_of_ble_eq_true rfl⟩, hts (.static yX18_in) (by decide +kernel), trivial⟩ ⟨cP.blind, cP.use (en_z hb0 hS) (hE.on hAb hS) hPc hKc hDc trivial⟩ rfl rfl hl.1 rfl (lv_room (Nat.le_of_ble_eq_true rfl)) dX14_neighbour_64 ⟨Nat.le_of_ble_eq_true rfl, Nat.le_of_ble_eq_true rfl⟩) hS (fun q _ h => hFc q h) hFc (fun r_12 u t H1 locs ht hvm hw hB hz1 hk1 hS => ?_)
            have hP1 : va_P (dC, dI) vwCl [] H1 := fun k q h => by simp at h
            have hD1 : va_D (va_A [] H.size) [] := ⟨fun i j p q h => by simp at h, fun k q h => by simp at h⟩
            try dsimp only at hw
            obtain ⟨hP, hD⟩ := va_join (wr := []) (w1 := []) hP hD [] [] rfl rfl (by decide) (by decide) hk1 hFc hP1 hD1
            generalize H1 = H at hP hS ⊢
            have hP : va_P (dC, dI) vwCl [] H := hP
            have hD : va_D A [] := hD
            have hR : va_P (dC, dI) vwCl [] H := fun k q h => by simp at h
            refine W.widen (k := 0) (n := 0) (Nat.le_of_ble_eq_true rfl) (Nat.le_of_ble_eq_true rfl) ?_
            have h_13 := hw
            refine lv_if_eq (tgt := 80) hx hb dX14_neighbour_67 (by decide) (fun c_14 => ?_) (fun c_14 => ?_)
            · skip
              refine lv_iconst (v := (-1)) hx hb dX14_neighbour_80 (by decide) ?_
              refine W.widen (k := 0) (n := 0) (Nat.le_of_ble_eq_true rfl) (Nat.le_of_ble_eq_true rfl) ?_
              exact W.iret (v := (-1)) hx hb hr (fun t ht hW => ⟨⟨(-1), (), rfl, (z_c_X14_neighbour_43 pc sd x_1 x_4 x_5 x_8 r_9 r_12 ex_1 c_2 c_3 ex_4 ex_5 c_6 c_7 ex_8 h_10 c_11 h_13 c_14), trivial⟩, hS.F ht⟩) hS.2.2 dX14_neighbour_81
            · skip
              refine lv_bipush (v := 8) hx hb dX14_neighbour_70 (by decide) ?_
              refine lv_iload hx hb dX14_neighbour_72 (lv_at hl 0 rfl) ?_
              refine lv_imul hx hb dX14_neighbour_74 ?_
              refine lv_topi (fun x_15 ex_15 => ?_)
              refine lv_iload_n hx hb dX14_neighbour_75 rfl (lv_at hl 1 rfl) ?_
              refine lv_iadd hx hb dX14_neighbour_76 ?_
              refine lv_topi (fun x_16 ex_16 => ?_)
              refine lv_goto (tgt := 81) hx hb dX14_neighbour_77 (by decide) ?_
              refine W.widen (k := 0) (n := 0) (Nat.le_of_ble_eq_true rfl) (Nat.le_of_ble_eq_true rfl) ?_
              exact W.iret (v := x_16) hx hb hr (fun t ht hW => ⟨⟨x_16, (), rfl, (z_c_X14_neighbour_44 pc sd x_1 x_4 x_5 x_8 r_9 r_12 x_15 x_16 ex_1 c_2 c_3 ex_4 ex_5 c_6 c_7 ex_8 h_10 c_11 h_13 c_14 ex_15 ex_16), trivial⟩, hS.F ht⟩) hS.2.2 dX14_neighbour_81
        · skip
          refine lv_iconst (v := 1) hx hb dX14_neighbour_42 (by decide) ?_
          refine lv_goto (tgt := 47) hx hb dX14_neighbour_43 (by decide) ?_
          refine lv_iadd hx hb dX14_neighbour_47 ?_
          refine lv_topi (fun x_17 ex_17 => ?_)
          refine lv_istore (lv' := [(4, .int x_17), (3, .int x_4), (0, .ref pic), (1, .int pc), (2, .int sd)]) hx hb dX14_neighbour_48 hl (by decide) rfl (fun ls hl => ?_)
          refine lv_iload_n hx hb dX14_neighbour_50 rfl (lv_at hl 1 rfl) ?_
          refine lv_iconst (v := 0) hx hb dX14_neighbour_51 (by decide) ?_
          refine lv_bipush (v := 7) hx hb dX14_neighbour_52 (by decide) ?_
          have hPc := (hP.app hR).sub (ws' := [] ++ []) [] rfl
          have hDc := (en_DD hD hDr hN0 hAb).sub (ws' := [] ++ []) [] (by decide) rfl
          have hKc := hK.sub (tys' := []) [] rfl
          have hFc := va_free (wc := []) hD hS hA [] rfl
          refine va_calli (va_runSN (As := [.int x_4, .int 0, .int 7]) (rest := []) ⟨hx, hb, hml, hown, hts⟩ (c_X18_in l dC dI b0 en s.heap.size x_4 0 7) ⟨va_cnB 3 hts gX14_neighbour_X18_in_n87 rfl rfl rfl (hE.nm ("UnderpaintModel$Picture", 87, ⟨"UnderpaintModel", "in", "(III)Z"⟩, "UnderpaintModel") (by decide +kernel)) (hts (.initialized RX18) (by decide +kernel)) (by decide +kernel) ⟨Nat.le_of_ble_eq_true rfl, Nat.le_of_ble_eq_true rfl⟩, hts (.static yX18_in) (by decide +kernel), trivial⟩ ⟨cP.blind, cP.use (en_z hb0 hS) (hE.on hAb hS) hPc hKc hDc trivial⟩ rfl rfl hl.1 rfl (lv_room (Nat.le_of_ble_eq_true rfl)) dX14_neighbour_54 ⟨Nat.le_of_ble_eq_true rfl, Nat.le_of_ble_eq_true rfl⟩) hS (fun q _ h => hFc q h) hFc (fun r_18 u t H1 locs ht hvm hw hB hz1 hk1 hS => ?_)
          have hP1 : va_P (dC, dI) vwCl [] H1 := fun k q h => by simp at h
          have hD1 : va_D (va_A [] s.heap.size) [] := ⟨fun i j p q h => by simp at h, fun k q h => by simp at h⟩
          try dsimp only at hw
          obtain ⟨hP, hD⟩ := va_join (wr := []) (w1 := []) hP hD [] [] rfl rfl (by decide) (by decide) hk1 hFc hP1 hD1
          generalize H1 = H at hP hS ⊢
          have hP : va_P (dC, dI) vwCl [] H := hP
          have hD : va_D A [] := hD
          have hR : va_P (dC, dI) vwCl [] H := fun k q h => by simp at h
          refine W.widen (k := 0) (n := 0) (Nat.le_of_ble_eq_true rfl) (Nat.le_of_ble_eq_true rfl) ?_
          have h_19 := hw
          refine lv_if_eq (tgt := 80) hx hb dX14_neighbour_57 (by decide) (fun c_20 => ?_) (fun c_20 => ?_)
          · skip
            refine lv_iconst (v := (-1)) hx hb dX14_neighbour_80 (by decide) ?_
            refine W.widen (k := 0) (n := 0) (Nat.le_of_ble_eq_true rfl) (Nat.le_of_ble_eq_true rfl) ?_
            exact W.iret (v := (-1)) hx hb hr (fun t ht hW => ⟨⟨(-1), (), rfl, (z_c_X14_neighbour_45 pc sd x_1 x_4 x_5 x_17 r_18 ex_1 c_2 c_3 ex_4 ex_5 c_6 c_7 ex_17 h_19 c_20), trivial⟩, hS.F ht⟩) hS.2.2 dX14_neighbour_81
          · skip
            refine lv_iload hx hb dX14_neighbour_60 (lv_at hl 0 rfl) ?_
            refine lv_iconst (v := 0) hx hb dX14_neighbour_62 (by decide) ?_
            refine lv_iconst (v := 5) hx hb dX14_neighbour_63 (by decide) ?_
            have hPc := (hP.app hR).sub (ws' := [] ++ []) [] rfl
            have hDc := (en_DD hD hDr hN0 hAb).sub (ws' := [] ++ []) [] (by decide) rfl
            have hKc := hK.sub (tys' := []) [] rfl
            have hFc := va_free (wc := []) hD hS hA [] rfl
            refine va_calli (va_runSN (As := [.int x_17, .int 0, .int 5]) (rest := []) ⟨hx, hb, hml, hown, hts⟩ (c_X18_in l dC dI b0 en H.size x_17 0 5) ⟨va_cnB 3 hts gX14_neighbour_X18_in_n87 rfl rfl rfl (hE.nm ("UnderpaintModel$Picture", 87, ⟨"UnderpaintModel", "in", "(III)Z"⟩, "UnderpaintModel") (by decide +kernel)) (hts (.initialized RX18) (by decide +kernel)) (by decide +kernel) ⟨Nat.le_of_ble_eq_true rfl, Nat.le_of_ble_eq_true rfl⟩, hts (.static yX18_in) (by decide +kernel), trivial⟩ ⟨cP.blind, cP.use (en_z hb0 hS) (hE.on hAb hS) hPc hKc hDc trivial⟩ rfl rfl hl.1 rfl (lv_room (Nat.le_of_ble_eq_true rfl)) dX14_neighbour_64 ⟨Nat.le_of_ble_eq_true rfl, Nat.le_of_ble_eq_true rfl⟩) hS (fun q _ h => hFc q h) hFc (fun r_21 u t H1 locs ht hvm hw hB hz1 hk1 hS => ?_)
            have hP1 : va_P (dC, dI) vwCl [] H1 := fun k q h => by simp at h
            have hD1 : va_D (va_A [] H.size) [] := ⟨fun i j p q h => by simp at h, fun k q h => by simp at h⟩
            try dsimp only at hw
            obtain ⟨hP, hD⟩ := va_join (wr := []) (w1 := []) hP hD [] [] rfl rfl (by decide) (by decide) hk1 hFc hP1 hD1
            generalize H1 = H at hP hS ⊢
            have hP : va_P (dC, dI) vwCl [] H := hP
            have hD : va_D A [] := hD
            have hR : va_P (dC, dI) vwCl [] H := fun k q h => by simp at h
            refine W.widen (k := 0) (n := 0) (Nat.le_of_ble_eq_true rfl) (Nat.le_of_ble_eq_true rfl) ?_
            have h_22 := hw
            refine lv_if_eq (tgt := 80) hx hb dX14_neighbour_67 (by decide) (fun c_23 => ?_) (fun c_23 => ?_)
            · skip
              refine lv_iconst (v := (-1)) hx hb dX14_neighbour_80 (by decide) ?_
              refine W.widen (k := 0) (n := 0) (Nat.le_of_ble_eq_true rfl) (Nat.le_of_ble_eq_true rfl) ?_
              exact W.iret (v := (-1)) hx hb hr (fun t ht hW => ⟨⟨(-1), (), rfl, (z_c_X14_neighbour_46 pc sd x_1 x_4 x_5 x_17 r_18 r_21 ex_1 c_2 c_3 ex_4 ex_5 c_6 c_7 ex_17 h_19 c_20 h_22 c_23), trivial⟩, hS.F ht⟩) hS.2.2 dX14_neighbour_81
            · skip
              refine lv_bipush (v := 8) hx hb dX14_neighbour_70 (by decide) ?_
              refine lv_iload hx hb dX14_neighbour_72 (lv_at hl 0 rfl) ?_
              refine lv_imul hx hb dX14_neighbour_74 ?_
              refine lv_topi (fun x_24 ex_24 => ?_)
              refine lv_iload_n hx hb dX14_neighbour_75 rfl (lv_at hl 1 rfl) ?_
              refine lv_iadd hx hb dX14_neighbour_76 ?_
              refine lv_topi (fun x_25 ex_25 => ?_)
              refine lv_goto (tgt := 81) hx hb dX14_neighbour_77 (by decide) ?_
              refine W.widen (k := 0) (n := 0) (Nat.le_of_ble_eq_true rfl) (Nat.le_of_ble_eq_true rfl) ?_
              exact W.iret (v := x_25) hx hb hr (fun t ht hW => ⟨⟨x_25, (), rfl, (z_c_X14_neighbour_47 pc sd x_1 x_4 x_5 x_17 r_18 r_21 x_24 x_25 ex_1 c_2 c_3 ex_4 ex_5 c_6 c_7 ex_17 h_19 c_20 h_22 c_23 ex_24 ex_25), trivial⟩, hS.F ht⟩) hS.2.2 dX14_neighbour_81
      · skip
        refine lv_iconst (v := (-1)) hx hb dX14_neighbour_33 (by decide) ?_
        refine lv_goto (tgt := 47) hx hb dX14_neighbour_34 (by decide) ?_
        refine lv_iadd hx hb dX14_neighbour_47 ?_
        refine lv_topi (fun x_26 ex_26 => ?_)
        refine lv_istore (lv' := [(4, .int x_26), (3, .int x_4), (0, .ref pic), (1, .int pc), (2, .int sd)]) hx hb dX14_neighbour_48 hl (by decide) rfl (fun ls hl => ?_)
        refine lv_iload_n hx hb dX14_neighbour_50 rfl (lv_at hl 1 rfl) ?_
        refine lv_iconst (v := 0) hx hb dX14_neighbour_51 (by decide) ?_
        refine lv_bipush (v := 7) hx hb dX14_neighbour_52 (by decide) ?_
        have hPc := (hP.app hR).sub (ws' := [] ++ []) [] rfl
        have hDc := (en_DD hD hDr hN0 hAb).sub (ws' := [] ++ []) [] (by decide) rfl
        have hKc := hK.sub (tys' := []) [] rfl
        have hFc := va_free (wc := []) hD hS hA [] rfl
        refine va_calli (va_runSN (As := [.int x_4, .int 0, .int 7]) (rest := []) ⟨hx, hb, hml, hown, hts⟩ (c_X18_in l dC dI b0 en s.heap.size x_4 0 7) ⟨va_cnB 3 hts gX14_neighbour_X18_in_n87 rfl rfl rfl (hE.nm ("UnderpaintModel$Picture", 87, ⟨"UnderpaintModel", "in", "(III)Z"⟩, "UnderpaintModel") (by decide +kernel)) (hts (.initialized RX18) (by decide +kernel)) (by decide +kernel) ⟨Nat.le_of_ble_eq_true rfl, Nat.le_of_ble_eq_true rfl⟩, hts (.static yX18_in) (by decide +kernel), trivial⟩ ⟨cP.blind, cP.use (en_z hb0 hS) (hE.on hAb hS) hPc hKc hDc trivial⟩ rfl rfl hl.1 rfl (lv_room (Nat.le_of_ble_eq_true rfl)) dX14_neighbour_54 ⟨Nat.le_of_ble_eq_true rfl, Nat.le_of_ble_eq_true rfl⟩) hS (fun q _ h => hFc q h) hFc (fun r_27 u t H1 locs ht hvm hw hB hz1 hk1 hS => ?_)
        have hP1 : va_P (dC, dI) vwCl [] H1 := fun k q h => by simp at h
        have hD1 : va_D (va_A [] s.heap.size) [] := ⟨fun i j p q h => by simp at h, fun k q h => by simp at h⟩
        try dsimp only at hw
        obtain ⟨hP, hD⟩ := va_join (wr := []) (w1 := []) hP hD [] [] rfl rfl (by decide) (by decide) hk1 hFc hP1 hD1
        generalize H1 = H at hP hS ⊢
        have hP : va_P (dC, dI) vwCl [] H := hP
        have hD : va_D A [] := hD
        have hR : va_P (dC, dI) vwCl [] H := fun k q h => by simp at h
        refine W.widen (k := 0) (n := 0) (Nat.le_of_ble_eq_true rfl) (Nat.le_of_ble_eq_true rfl) ?_
        have h_28 := hw
        refine lv_if_eq (tgt := 80) hx hb dX14_neighbour_57 (by decide) (fun c_29 => ?_) (fun c_29 => ?_)
        · skip
          refine lv_iconst (v := (-1)) hx hb dX14_neighbour_80 (by decide) ?_
          refine W.widen (k := 0) (n := 0) (Nat.le_of_ble_eq_true rfl) (Nat.le_of_ble_eq_true rfl) ?_
          exact W.iret (v := (-1)) hx hb hr (fun t ht hW => ⟨⟨(-1), (), rfl, (z_c_X14_neighbour_48 pc sd x_1 x_4 x_5 x_26 r_27 ex_1 c_2 c_3 ex_4 ex_5 c_6 ex_26 h_28 c_29), trivial⟩, hS.F ht⟩) hS.2.2 dX14_neighbour_81
        · skip
          refine lv_iload hx hb dX14_neighbour_60 (lv_at hl 0 rfl) ?_
          refine lv_iconst (v := 0) hx hb dX14_neighbour_62 (by decide) ?_
          refine lv_iconst (v := 5) hx hb dX14_neighbour_63 (by decide) ?_
          have hPc := (hP.app hR).sub (ws' := [] ++ []) [] rfl
          have hDc := (en_DD hD hDr hN0 hAb).sub (ws' := [] ++ []) [] (by decide) rfl
          have hKc := hK.sub (tys' := []) [] rfl
          have hFc := va_free (wc := []) hD hS hA [] rfl
          refine va_calli (va_runSN (As := [.int x_26, .int 0, .int 5]) (rest := []) ⟨hx, hb, hml, hown, hts⟩ (c_X18_in l dC dI b0 en H.size x_26 0 5) ⟨va_cnB 3 hts gX14_neighbour_X18_in_n87 rfl rfl rfl (hE.nm ("UnderpaintModel$Picture", 87, ⟨"UnderpaintModel", "in", "(III)Z"⟩, "UnderpaintModel") (by decide +kernel)) (hts (.initialized RX18) (by decide +kernel)) (by decide +kernel) ⟨Nat.le_of_ble_eq_true rfl, Nat.le_of_ble_eq_true rfl⟩, hts (.static yX18_in) (by decide +kernel), trivial⟩ ⟨cP.blind, cP.use (en_z hb0 hS) (hE.on hAb hS) hPc hKc hDc trivial⟩ rfl rfl hl.1 rfl (lv_room (Nat.le_of_ble_eq_true rfl)) dX14_neighbour_64 ⟨Nat.le_of_ble_eq_true rfl, Nat.le_of_ble_eq_true rfl⟩) hS (fun q _ h => hFc q h) hFc (fun r_30 u t H1 locs ht hvm hw hB hz1 hk1 hS => ?_)
          have hP1 : va_P (dC, dI) vwCl [] H1 := fun k q h => by simp at h
          have hD1 : va_D (va_A [] H.size) [] := ⟨fun i j p q h => by simp at h, fun k q h => by simp at h⟩
          try dsimp only at hw
          obtain ⟨hP, hD⟩ := va_join (wr := []) (w1 := []) hP hD [] [] rfl rfl (by decide) (by decide) hk1 hFc hP1 hD1
          generalize H1 = H at hP hS ⊢
          have hP : va_P (dC, dI) vwCl [] H := hP
          have hD : va_D A [] := hD
          have hR : va_P (dC, dI) vwCl [] H := fun k q h => by simp at h
          refine W.widen (k := 0) (n := 0) (Nat.le_of_ble_eq_true rfl) (Nat.le_of_ble_eq_true rfl) ?_
          have h_31 := hw
          refine lv_if_eq (tgt := 80) hx hb dX14_neighbour_67 (by decide) (fun c_32 => ?_) (fun c_32 => ?_)
          · skip
            refine lv_iconst (v := (-1)) hx hb dX14_neighbour_80 (by decide) ?_
            refine W.widen (k := 0) (n := 0) (Nat.le_of_ble_eq_true rfl) (Nat.le_of_ble_eq_true rfl) ?_
            exact W.iret (v := (-1)) hx hb hr (fun t ht hW => ⟨⟨(-1), (), rfl, (z_c_X14_neighbour_49 pc sd x_1 x_4 x_5 x_26 r_27 r_30 ex_1 c_2 c_3 ex_4 ex_5 c_6 ex_26 h_28 c_29 h_31 c_32), trivial⟩, hS.F ht⟩) hS.2.2 dX14_neighbour_81
          · skip
            refine lv_bipush (v := 8) hx hb dX14_neighbour_70 (by decide) ?_
            refine lv_iload hx hb dX14_neighbour_72 (lv_at hl 0 rfl) ?_
            refine lv_imul hx hb dX14_neighbour_74 ?_
            refine lv_topi (fun x_33 ex_33 => ?_)
            refine lv_iload_n hx hb dX14_neighbour_75 rfl (lv_at hl 1 rfl) ?_
            refine lv_iadd hx hb dX14_neighbour_76 ?_
            refine lv_topi (fun x_34 ex_34 => ?_)
            refine lv_goto (tgt := 81) hx hb dX14_neighbour_77 (by decide) ?_
            refine W.widen (k := 0) (n := 0) (Nat.le_of_ble_eq_true rfl) (Nat.le_of_ble_eq_true rfl) ?_
            exact W.iret (v := x_34) hx hb hr (fun t ht hW => ⟨⟨x_34, (), rfl, (z_c_X14_neighbour_50 pc sd x_1 x_4 x_5 x_26 r_27 r_30 x_33 x_34 ex_1 c_2 c_3 ex_4 ex_5 c_6 ex_26 h_28 c_29 h_31 c_32 ex_33 ex_34), trivial⟩, hS.F ht⟩) hS.2.2 dX14_neighbour_81
    · skip
      refine lv_iconst (v := 1) hx hb dX14_neighbour_17 (by decide) ?_
      refine lv_goto (tgt := 22) hx hb dX14_neighbour_18 (by decide) ?_
      refine lv_iadd hx hb dX14_neighbour_22 ?_
      refine lv_topi (fun x_35 ex_35 => ?_)
      refine lv_istore_n (lv' := [(3, .int x_35), (0, .ref pic), (1, .int pc), (2, .int sd)]) hx hb dX14_neighbour_23 rfl hl (by decide) rfl (fun ls hl => ?_)
      refine lv_iload_n hx hb dX14_neighbour_24 rfl (lv_at hl 2 rfl) ?_
      refine lv_bipush (v := 8) hx hb dX14_neighbour_25 (by decide) ?_
      refine lv_idiv hx hb dX14_neighbour_27 (by decide) ?_
      refine lv_topi (fun x_36 ex_36 => ?_)
      refine lv_iload_n hx hb dX14_neighbour_28 rfl (lv_at hl 3 rfl) ?_
      refine lv_iconst (v := 2) hx hb dX14_neighbour_29 (by decide) ?_
      refine lv_icmp_ne (tgt := 37) hx hb dX14_neighbour_30 (by decide) (fun c_37 => ?_) (fun c_37 => ?_)
      · skip
        refine lv_iload_n hx hb dX14_neighbour_37 rfl (lv_at hl 3 rfl) ?_
        refine lv_iconst (v := 3) hx hb dX14_neighbour_38 (by decide) ?_
        refine lv_icmp_ne (tgt := 46) hx hb dX14_neighbour_39 (by decide) (fun c_38 => ?_) (fun c_38 => ?_)
        · skip
          refine lv_iconst (v := 0) hx hb dX14_neighbour_46 (by decide) ?_
          refine lv_iadd hx hb dX14_neighbour_47 ?_
          refine lv_topi (fun x_39 ex_39 => ?_)
          refine lv_istore (lv' := [(4, .int x_39), (3, .int x_35), (0, .ref pic), (1, .int pc), (2, .int sd)]) hx hb dX14_neighbour_48 hl (by decide) rfl (fun ls hl => ?_)
          refine lv_iload_n hx hb dX14_neighbour_50 rfl (lv_at hl 1 rfl) ?_
          refine lv_iconst (v := 0) hx hb dX14_neighbour_51 (by decide) ?_
          refine lv_bipush (v := 7) hx hb dX14_neighbour_52 (by decide) ?_
          have hPc := (hP.app hR).sub (ws' := [] ++ []) [] rfl
          have hDc := (en_DD hD hDr hN0 hAb).sub (ws' := [] ++ []) [] (by decide) rfl
          have hKc := hK.sub (tys' := []) [] rfl
          have hFc := va_free (wc := []) hD hS hA [] rfl
          refine va_calli (va_runSN (As := [.int x_35, .int 0, .int 7]) (rest := []) ⟨hx, hb, hml, hown, hts⟩ (c_X18_in l dC dI b0 en s.heap.size x_35 0 7) ⟨va_cnB 3 hts gX14_neighbour_X18_in_n87 rfl rfl rfl (hE.nm ("UnderpaintModel$Picture", 87, ⟨"UnderpaintModel", "in", "(III)Z"⟩, "UnderpaintModel") (by decide +kernel)) (hts (.initialized RX18) (by decide +kernel)) (by decide +kernel) ⟨Nat.le_of_ble_eq_true rfl, Nat.le_of_ble_eq_true rfl⟩, hts (.static yX18_in) (by decide +kernel), trivial⟩ ⟨cP.blind, cP.use (en_z hb0 hS) (hE.on hAb hS) hPc hKc hDc trivial⟩ rfl rfl hl.1 rfl (lv_room (Nat.le_of_ble_eq_true rfl)) dX14_neighbour_54 ⟨Nat.le_of_ble_eq_true rfl, Nat.le_of_ble_eq_true rfl⟩) hS (fun q _ h => hFc q h) hFc (fun r_40 u t H1 locs ht hvm hw hB hz1 hk1 hS => ?_)
          have hP1 : va_P (dC, dI) vwCl [] H1 := fun k q h => by simp at h
          have hD1 : va_D (va_A [] s.heap.size) [] := ⟨fun i j p q h => by simp at h, fun k q h => by simp at h⟩
          try dsimp only at hw
          obtain ⟨hP, hD⟩ := va_join (wr := []) (w1 := []) hP hD [] [] rfl rfl (by decide) (by decide) hk1 hFc hP1 hD1
          generalize H1 = H at hP hS ⊢
          have hP : va_P (dC, dI) vwCl [] H := hP
          have hD : va_D A [] := hD
          have hR : va_P (dC, dI) vwCl [] H := fun k q h => by simp at h
          refine W.widen (k := 0) (n := 0) (Nat.le_of_ble_eq_true rfl) (Nat.le_of_ble_eq_true rfl) ?_
          have h_41 := hw
          refine lv_if_eq (tgt := 80) hx hb dX14_neighbour_57 (by decide) (fun c_42 => ?_) (fun c_42 => ?_)
          · skip
            refine lv_iconst (v := (-1)) hx hb dX14_neighbour_80 (by decide) ?_
            refine W.widen (k := 0) (n := 0) (Nat.le_of_ble_eq_true rfl) (Nat.le_of_ble_eq_true rfl) ?_
            exact W.iret (v := (-1)) hx hb hr (fun t ht hW => ⟨⟨(-1), (), rfl, (z_c_X14_neighbour_51 pc sd x_1 x_35 x_36 x_39 r_40 ex_1 c_2 c_3 ex_35 ex_36 c_37 c_38 ex_39 h_41 c_42), trivial⟩, hS.F ht⟩) hS.2.2 dX14_neighbour_81
          · skip
            refine lv_iload hx hb dX14_neighbour_60 (lv_at hl 0 rfl) ?_
            refine lv_iconst (v := 0) hx hb dX14_neighbour_62 (by decide) ?_
            refine lv_iconst (v := 5) hx hb dX14_neighbour_63 (by decide) ?_
            have hPc := (hP.app hR).sub (ws' := [] ++ []) [] rfl
            have hDc := (en_DD hD hDr hN0 hAb).sub (ws' := [] ++ []) [] (by decide) rfl
            have hKc := hK.sub (tys' := []) [] rfl
            have hFc := va_free (wc := []) hD hS hA [] rfl
            refine va_calli (va_runSN (As := [.int x_39, .int 0, .int 5]) (rest := []) ⟨hx, hb, hml, hown, hts⟩ (c_X18_in l dC dI b0 en H.size x_39 0 5) ⟨va_cnB 3 hts gX14_neighbour_X18_in_n87 rfl rfl rfl (hE.nm ("UnderpaintModel$Picture", 87, ⟨"UnderpaintModel", "in", "(III)Z"⟩, "UnderpaintModel") (by decide +kernel)) (hts (.initialized RX18) (by decide +kernel)) (by decide +kernel) ⟨Nat.le_of_ble_eq_true rfl, Nat.le_of_ble_eq_true rfl⟩, hts (.static yX18_in) (by decide +kernel), trivial⟩ ⟨cP.blind, cP.use (en_z hb0 hS) (hE.on hAb hS) hPc hKc hDc trivial⟩ rfl rfl hl.1 rfl (lv_room (Nat.le_of_ble_eq_true rfl)) dX14_neighbour_64 ⟨Nat.le_of_ble_eq_true rfl, Nat.le_of_ble_eq_true rfl⟩) hS (fun q _ h => hFc q h) hFc (fun r_43 u t H1 locs ht hvm hw hB hz1 hk1 hS => ?_)
            have hP1 : va_P (dC, dI) vwCl [] H1 := fun k q h => by simp at h
            have hD1 : va_D (va_A [] H.size) [] := ⟨fun i j p q h => by simp at h, fun k q h => by simp at h⟩
            try dsimp only at hw
            obtain ⟨hP, hD⟩ := va_join (wr := []) (w1 := []) hP hD [] [] rfl rfl (by decide) (by decide) hk1 hFc hP1 hD1
            generalize H1 = H at hP hS ⊢
            have hP : va_P (dC, dI) vwCl [] H := hP
            have hD : va_D A [] := hD
            have hR : va_P (dC, dI) vwCl [] H := fun k q h => by simp at h
            refine W.widen (k := 0) (n := 0) (Nat.le_of_ble_eq_true rfl) (Nat.le_of_ble_eq_true rfl) ?_
            have h_44 := hw
            refine lv_if_eq (tgt := 80) hx hb dX14_neighbour_67 (by decide) (fun c_45 => ?_) (fun c_45 => ?_)
            · skip
              refine lv_iconst (v := (-1)) hx hb dX14_neighbour_80 (by decide) ?_
              refine W.widen (k := 0) (n := 0) (Nat.le_of_ble_eq_true rfl) (Nat.le_of_ble_eq_true rfl) ?_
              exact W.iret (v := (-1)) hx hb hr (fun t ht hW => ⟨⟨(-1), (), rfl, (z_c_X14_neighbour_52 pc sd x_1 x_35 x_36 x_39 r_40 r_43 ex_1 c_2 c_3 ex_35 ex_36 c_37 c_38 ex_39 h_41 c_42 h_44 c_45), trivial⟩, hS.F ht⟩) hS.2.2 dX14_neighbour_81
            · skip
              refine lv_bipush (v := 8) hx hb dX14_neighbour_70 (by decide) ?_
              refine lv_iload hx hb dX14_neighbour_72 (lv_at hl 0 rfl) ?_
              refine lv_imul hx hb dX14_neighbour_74 ?_
              refine lv_topi (fun x_46 ex_46 => ?_)
              refine lv_iload_n hx hb dX14_neighbour_75 rfl (lv_at hl 1 rfl) ?_
              refine lv_iadd hx hb dX14_neighbour_76 ?_
              refine lv_topi (fun x_47 ex_47 => ?_)
              refine lv_goto (tgt := 81) hx hb dX14_neighbour_77 (by decide) ?_
              refine W.widen (k := 0) (n := 0) (Nat.le_of_ble_eq_true rfl) (Nat.le_of_ble_eq_true rfl) ?_
              exact W.iret (v := x_47) hx hb hr (fun t ht hW => ⟨⟨x_47, (), rfl, (z_c_X14_neighbour_53 pc sd x_1 x_35 x_36 x_39 r_40 r_43 x_46 x_47 ex_1 c_2 c_3 ex_35 ex_36 c_37 c_38 ex_39 h_41 c_42 h_44 c_45 ex_46 ex_47), trivial⟩, hS.F ht⟩) hS.2.2 dX14_neighbour_81
        · skip
          refine lv_iconst (v := 1) hx hb dX14_neighbour_42 (by decide) ?_
          refine lv_goto (tgt := 47) hx hb dX14_neighbour_43 (by decide) ?_
          refine lv_iadd hx hb dX14_neighbour_47 ?_
          refine lv_topi (fun x_48 ex_48 => ?_)
          refine lv_istore (lv' := [(4, .int x_48), (3, .int x_35), (0, .ref pic), (1, .int pc), (2, .int sd)]) hx hb dX14_neighbour_48 hl (by decide) rfl (fun ls hl => ?_)
          refine lv_iload_n hx hb dX14_neighbour_50 rfl (lv_at hl 1 rfl) ?_
          refine lv_iconst (v := 0) hx hb dX14_neighbour_51 (by decide) ?_
          refine lv_bipush (v := 7) hx hb dX14_neighbour_52 (by decide) ?_
          have hPc := (hP.app hR).sub (ws' := [] ++ []) [] rfl
          have hDc := (en_DD hD hDr hN0 hAb).sub (ws' := [] ++ []) [] (by decide) rfl
          have hKc := hK.sub (tys' := []) [] rfl
          have hFc := va_free (wc := []) hD hS hA [] rfl
          refine va_calli (va_runSN (As := [.int x_35, .int 0, .int 7]) (rest := []) ⟨hx, hb, hml, hown, hts⟩ (c_X18_in l dC dI b0 en s.heap.size x_35 0 7) ⟨va_cnB 3 hts gX14_neighbour_X18_in_n87 rfl rfl rfl (hE.nm ("UnderpaintModel$Picture", 87, ⟨"UnderpaintModel", "in", "(III)Z"⟩, "UnderpaintModel") (by decide +kernel)) (hts (.initialized RX18) (by decide +kernel)) (by decide +kernel) ⟨Nat.le_of_ble_eq_true rfl, Nat.le_of_ble_eq_true rfl⟩, hts (.static yX18_in) (by decide +kernel), trivial⟩ ⟨cP.blind, cP.use (en_z hb0 hS) (hE.on hAb hS) hPc hKc hDc trivial⟩ rfl rfl hl.1 rfl (lv_room (Nat.le_of_ble_eq_true rfl)) dX14_neighbour_54 ⟨Nat.le_of_ble_eq_true rfl, Nat.le_of_ble_eq_true rfl⟩) hS (fun q _ h => hFc q h) hFc (fun r_49 u t H1 locs ht hvm hw hB hz1 hk1 hS => ?_)
          have hP1 : va_P (dC, dI) vwCl [] H1 := fun k q h => by simp at h
          have hD1 : va_D (va_A [] s.heap.size) [] := ⟨fun i j p q h => by simp at h, fun k q h => by simp at h⟩
          try dsimp only at hw
          obtain ⟨hP, hD⟩ := va_join (wr := []) (w1 := []) hP hD [] [] rfl rfl (by decide) (by decide) hk1 hFc hP1 hD1
          generalize H1 = H at hP hS ⊢
          have hP : va_P (dC, dI) vwCl [] H := hP
          have hD : va_D A [] := hD
          have hR : va_P (dC, dI) vwCl [] H := fun k q h => by simp at h
          refine W.widen (k := 0) (n := 0) (Nat.le_of_ble_eq_true rfl) (Nat.le_of_ble_eq_true rfl) ?_
          have h_50 := hw
          refine lv_if_eq (tgt := 80) hx hb dX14_neighbour_57 (by decide) (fun c_51 => ?_) (fun c_51 => ?_)
          · skip
            refine lv_iconst (v := (-1)) hx hb dX14_neighbour_80 (by decide) ?_
            refine W.widen (k := 0) (n := 0) (Nat.le_of_ble_eq_true rfl) (Nat.le_of_ble_eq_true rfl) ?_
            exact W.iret (v := (-1)) hx hb hr (fun t ht hW => ⟨⟨(-1), (), rfl, (z_c_X14_neighbour_54 pc sd x_1 x_35 x_36 x_48 r_49 ex_1 c_2 c_3 ex_35 ex_36 c_37 c_38 ex_48 h_50 c_51), trivial⟩, hS.F ht⟩) hS.2.2 dX14_neighbour_81
          · skip
            refine lv_iload hx hb dX14_neighbour_60 (lv_at hl 0 rfl) ?_
            refine lv_iconst (v := 0) hx hb dX14_neighbour_62 (by decide) ?_
            refine lv_iconst (v := 5) hx hb dX14_neighbour_63 (by decide) ?_
            have hPc := (hP.app hR).sub (ws' := [] ++ []) [] rfl
            have hDc := (en_DD hD hDr hN0 hAb).sub (ws' := [] ++ []) [] (by decide) rfl
            have hKc := hK.sub (tys' := []) [] rfl
            have hFc := va_free (wc := []) hD hS hA [] rfl
            refine va_calli (va_runSN (As := [.int x_48, .int 0, .int 5]) (rest := []) ⟨hx, hb, hml, hown, hts⟩ (c_X18_in l dC dI b0 en H.size x_48 0 5) ⟨va_cnB 3 hts gX14_neighbour_X18_in_n87 rfl rfl rfl (hE.nm ("UnderpaintModel$Picture", 87, ⟨"UnderpaintModel", "in", "(III)Z"⟩, "UnderpaintModel") (by decide +kernel)) (hts (.initialized RX18) (by decide +kernel)) (by decide +kernel) ⟨Nat.le_of_ble_eq_true rfl, Nat.le_of_ble_eq_true rfl⟩, hts (.static yX18_in) (by decide +kernel), trivial⟩ ⟨cP.blind, cP.use (en_z hb0 hS) (hE.on hAb hS) hPc hKc hDc trivial⟩ rfl rfl hl.1 rfl (lv_room (Nat.le_of_ble_eq_true rfl)) dX14_neighbour_64 ⟨Nat.le_of_ble_eq_true rfl, Nat.le_of_ble_eq_true rfl⟩) hS (fun q _ h => hFc q h) hFc (fun r_52 u t H1 locs ht hvm hw hB hz1 hk1 hS => ?_)
            have hP1 : va_P (dC, dI) vwCl [] H1 := fun k q h => by simp at h
            have hD1 : va_D (va_A [] H.size) [] := ⟨fun i j p q h => by simp at h, fun k q h => by simp at h⟩
            try dsimp only at hw
            obtain ⟨hP, hD⟩ := va_join (wr := []) (w1 := []) hP hD [] [] rfl rfl (by decide) (by decide) hk1 hFc hP1 hD1
            generalize H1 = H at hP hS ⊢
            have hP : va_P (dC, dI) vwCl [] H := hP
            have hD : va_D A [] := hD
            have hR : va_P (dC, dI) vwCl [] H := fun k q h => by simp at h
            refine W.widen (k := 0) (n := 0) (Nat.le_of_ble_eq_true rfl) (Nat.le_of_ble_eq_true rfl) ?_
            have h_53 := hw
            refine lv_if_eq (tgt := 80) hx hb dX14_neighbour_67 (by decide) (fun c_54 => ?_) (fun c_54 => ?_)
            · skip
              refine lv_iconst (v := (-1)) hx hb dX14_neighbour_80 (by decide) ?_
              refine W.widen (k := 0) (n := 0) (Nat.le_of_ble_eq_true rfl) (Nat.le_of_ble_eq_true rfl) ?_
              exact W.iret (v := (-1)) hx hb hr (fun t ht hW => ⟨⟨(-1), (), rfl, (z_c_X14_neighbour_55 pc sd x_1 x_35 x_36 x_48 r_49 r_52 ex_1 c_2 c_3 ex_35 ex_36 c_37 c_38 ex_48 h_50 c_51 h_53 c_54), trivial⟩, hS.F ht⟩) hS.2.2 dX14_neighbour_81
            · skip
              refine lv_bipush (v := 8) hx hb dX14_neighbour_70 (by decide) ?_
              refine lv_iload hx hb dX14_neighbour_72 (lv_at hl 0 rfl) ?_
              refine lv_imul hx hb dX14_neighbour_74 ?_
              refine lv_topi (fun x_55 ex_55 => ?_)
              refine lv_iload_n hx hb dX14_neighbour_75 rfl (lv_at hl 1 rfl) ?_
              refine lv_iadd hx hb dX14_neighbour_76 ?_
              refine lv_topi (fun x_56 ex_56 => ?_)
              refine lv_goto (tgt := 81) hx hb dX14_neighbour_77 (by decide) ?_
              refine W.widen (k := 0) (n := 0) (Nat.le_of_ble_eq_true rfl) (Nat.le_of_ble_eq_true rfl) ?_
              exact W.iret (v := x_56) hx hb hr (fun t ht hW => ⟨⟨x_56, (), rfl, (z_c_X14_neighbour_56 pc sd x_1 x_35 x_36 x_48 r_49 r_52 x_55 x_56 ex_1 c_2 c_3 ex_35 ex_36 c_37 c_38 ex_48 h_50 c_51 h_53 c_54 ex_55 ex_56), trivial⟩, hS.F ht⟩) hS.2.2 dX14_neighbour_81
      · skip
        refine lv_iconst (v := (-1)) hx hb dX14_neighbour_33 (by decide) ?_
        refine lv_goto (tgt := 47) hx hb dX14_neighbour_34 (by decide) ?_
        refine lv_iadd hx hb dX14_neighbour_47 ?_
        refine lv_topi (fun x_57 ex_57 => ?_)
        refine lv_istore (lv' := [(4, .int x_57), (3, .int x_35), (0, .ref pic), (1, .int pc), (2, .int sd)]) hx hb dX14_neighbour_48 hl (by decide) rfl (fun ls hl => ?_)
        refine lv_iload_n hx hb dX14_neighbour_50 rfl (lv_at hl 1 rfl) ?_
        refine lv_iconst (v := 0) hx hb dX14_neighbour_51 (by decide) ?_
        refine lv_bipush (v := 7) hx hb dX14_neighbour_52 (by decide) ?_
        have hPc := (hP.app hR).sub (ws' := [] ++ []) [] rfl
        have hDc := (en_DD hD hDr hN0 hAb).sub (ws' := [] ++ []) [] (by decide) rfl
        have hKc := hK.sub (tys' := []) [] rfl
        have hFc := va_free (wc := []) hD hS hA [] rfl
        refine va_calli (va_runSN (As := [.int x_35, .int 0, .int 7]) (rest := []) ⟨hx, hb, hml, hown, hts⟩ (c_X18_in l dC dI b0 en s.heap.size x_35 0 7) ⟨va_cnB 3 hts gX14_neighbour_X18_in_n87 rfl rfl rfl (hE.nm ("UnderpaintModel$Picture", 87, ⟨"UnderpaintModel", "in", "(III)Z"⟩, "UnderpaintModel") (by decide +kernel)) (hts (.initialized RX18) (by decide +kernel)) (by decide +kernel) ⟨Nat.le_of_ble_eq_true rfl, Nat.le_of_ble_eq_true rfl⟩, hts (.static yX18_in) (by decide +kernel), trivial⟩ ⟨cP.blind, cP.use (en_z hb0 hS) (hE.on hAb hS) hPc hKc hDc trivial⟩ rfl rfl hl.1 rfl (lv_room (Nat.le_of_ble_eq_true rfl)) dX14_neighbour_54 ⟨Nat.le_of_ble_eq_true rfl, Nat.le_of_ble_eq_true rfl⟩) hS (fun q _ h => hFc q h) hFc (fun r_58 u t H1 locs ht hvm hw hB hz1 hk1 hS => ?_)
        have hP1 : va_P (dC, dI) vwCl [] H1 := fun k q h => by simp at h
        have hD1 : va_D (va_A [] s.heap.size) [] := ⟨fun i j p q h => by simp at h, fun k q h => by simp at h⟩
        try dsimp only at hw
        obtain ⟨hP, hD⟩ := va_join (wr := []) (w1 := []) hP hD [] [] rfl rfl (by decide) (by decide) hk1 hFc hP1 hD1
        generalize H1 = H at hP hS ⊢
        have hP : va_P (dC, dI) vwCl [] H := hP
        have hD : va_D A [] := hD
        have hR : va_P (dC, dI) vwCl [] H := fun k q h => by simp at h
        refine W.widen (k := 0) (n := 0) (Nat.le_of_ble_eq_true rfl) (Nat.le_of_ble_eq_true rfl) ?_
        have h_59 := hw
        refine lv_if_eq (tgt := 80) hx hb dX14_neighbour_57 (by decide) (fun c_60 => ?_) (fun c_60 => ?_)
        · skip
          refine lv_iconst (v := (-1)) hx hb dX14_neighbour_80 (by decide) ?_
          refine W.widen (k := 0) (n := 0) (Nat.le_of_ble_eq_true rfl) (Nat.le_of_ble_eq_true rfl) ?_
          exact W.iret (v := (-1)) hx hb hr (fun t ht hW => ⟨⟨(-1), (), rfl, (z_c_X14_neighbour_57 pc sd x_1 x_35 x_36 x_57 r_58 ex_1 c_2 c_3 ex_35 ex_36 c_37 ex_57 h_59 c_60), trivial⟩, hS.F ht⟩) hS.2.2 dX14_neighbour_81
        · skip
          refine lv_iload hx hb dX14_neighbour_60 (lv_at hl 0 rfl) ?_
          refine lv_iconst (v := 0) hx hb dX14_neighbour_62 (by decide) ?_
          refine lv_iconst (v := 5) hx hb dX14_neighbour_63 (by decide) ?_
          have hPc := (hP.app hR).sub (ws' := [] ++ []) [] rfl
          have hDc := (en_DD hD hDr hN0 hAb).sub (ws' := [] ++ []) [] (by decide) rfl
          have hKc := hK.sub (tys' := []) [] rfl
          have hFc := va_free (wc := []) hD hS hA [] rfl
          refine va_calli (va_runSN (As := [.int x_57, .int 0, .int 5]) (rest := []) ⟨hx, hb, hml, hown, hts⟩ (c_X18_in l dC dI b0 en H.size x_57 0 5) ⟨va_cnB 3 hts gX14_neighbour_X18_in_n87 rfl rfl rfl (hE.nm ("UnderpaintModel$Picture", 87, ⟨"UnderpaintModel", "in", "(III)Z"⟩, "UnderpaintModel") (by decide +kernel)) (hts (.initialized RX18) (by decide +kernel)) (by decide +kernel) ⟨Nat.le_of_ble_eq_true rfl, Nat.le_of_ble_eq_true rfl⟩, hts (.static yX18_in) (by decide +kernel), trivial⟩ ⟨cP.blind, cP.use (en_z hb0 hS) (hE.on hAb hS) hPc hKc hDc trivial⟩ rfl rfl hl.1 rfl (lv_room (Nat.le_of_ble_eq_true rfl)) dX14_neighbour_64 ⟨Nat.le_of_ble_eq_true rfl, Nat.le_of_ble_eq_true rfl⟩) hS (fun q _ h => hFc q h) hFc (fun r_61 u t H1 locs ht hvm hw hB hz1 hk1 hS => ?_)
          have hP1 : va_P (dC, dI) vwCl [] H1 := fun k q h => by simp at h
          have hD1 : va_D (va_A [] H.size) [] := ⟨fun i j p q h => by simp at h, fun k q h => by simp at h⟩
          try dsimp only at hw
          obtain ⟨hP, hD⟩ := va_join (wr := []) (w1 := []) hP hD [] [] rfl rfl (by decide) (by decide) hk1 hFc hP1 hD1
          generalize H1 = H at hP hS ⊢
          have hP : va_P (dC, dI) vwCl [] H := hP
          have hD : va_D A [] := hD
          have hR : va_P (dC, dI) vwCl [] H := fun k q h => by simp at h
          refine W.widen (k := 0) (n := 0) (Nat.le_of_ble_eq_true rfl) (Nat.le_of_ble_eq_true rfl) ?_
          have h_62 := hw
          refine lv_if_eq (tgt := 80) hx hb dX14_neighbour_67 (by decide) (fun c_63 => ?_) (fun c_63 => ?_)
          · skip
            refine lv_iconst (v := (-1)) hx hb dX14_neighbour_80 (by decide) ?_
            refine W.widen (k := 0) (n := 0) (Nat.le_of_ble_eq_true rfl) (Nat.le_of_ble_eq_true rfl) ?_
            exact W.iret (v := (-1)) hx hb hr (fun t ht hW => ⟨⟨(-1), (), rfl, (z_c_X14_neighbour_58 pc sd x_1 x_35 x_36 x_57 r_58 r_61 ex_1 c_2 c_3 ex_35 ex_36 c_37 ex_57 h_59 c_60 h_62 c_63), trivial⟩, hS.F ht⟩) hS.2.2 dX14_neighbour_81
          · skip
            refine lv_bipush (v := 8) hx hb dX14_neighbour_70 (by decide) ?_
            refine lv_iload hx hb dX14_neighbour_72 (lv_at hl 0 rfl) ?_
            refine lv_imul hx hb dX14_neighbour_74 ?_
            refine lv_topi (fun x_64 ex_64 => ?_)
            refine lv_iload_n hx hb dX14_neighbour_75 rfl (lv_at hl 1 rfl) ?_
            refine lv_iadd hx hb dX14_neighbour_76 ?_
            refine lv_topi (fun x_65 ex_65 => ?_)
            refine lv_goto (tgt := 81) hx hb dX14_neighbour_77 (by decide) ?_
            refine W.widen (k := 0) (n := 0) (Nat.le_of_ble_eq_true rfl) (Nat.le_of_ble_eq_true rfl) ?_
            exact W.iret (v := x_65) hx hb hr (fun t ht hW => ⟨⟨x_65, (), rfl, (z_c_X14_neighbour_59 pc sd x_1 x_35 x_36 x_57 r_58 r_61 x_64 x_65 ex_1 c_2 c_3 ex_35 ex_36 c_37 ex_57 h_59 c_60 h_62 c_63 ex_64 ex_65), trivial⟩, hS.F ht⟩) hS.2.2 dX14_neighbour_81
  · skip
    refine lv_iconst (v := (-1)) hx hb dX14_neighbour_8 (by decide) ?_
    refine lv_goto (tgt := 22) hx hb dX14_neighbour_9 (by decide) ?_
    refine lv_iadd hx hb dX14_neighbour_22 ?_
    refine lv_topi (fun x_66 ex_66 => ?_)
    refine lv_istore_n (lv' := [(3, .int x_66), (0, .ref pic), (1, .int pc), (2, .int sd)]) hx hb dX14_neighbour_23 rfl hl (by decide) rfl (fun ls hl => ?_)
    refine lv_iload_n hx hb dX14_neighbour_24 rfl (lv_at hl 2 rfl) ?_
    refine lv_bipush (v := 8) hx hb dX14_neighbour_25 (by decide) ?_
    refine lv_idiv hx hb dX14_neighbour_27 (by decide) ?_
    refine lv_topi (fun x_67 ex_67 => ?_)
    refine lv_iload_n hx hb dX14_neighbour_28 rfl (lv_at hl 3 rfl) ?_
    refine lv_iconst (v := 2) hx hb dX14_neighbour_29 (by decide) ?_
    refine lv_icmp_ne (tgt := 37) hx hb dX14_neighbour_30 (by decide) (fun c_68 => ?_) (fun c_68 => ?_)
    · skip
      refine lv_iload_n hx hb dX14_neighbour_37 rfl (lv_at hl 3 rfl) ?_
      refine lv_iconst (v := 3) hx hb dX14_neighbour_38 (by decide) ?_
      refine lv_icmp_ne (tgt := 46) hx hb dX14_neighbour_39 (by decide) (fun c_69 => ?_) (fun c_69 => ?_)
      · skip
        refine lv_iconst (v := 0) hx hb dX14_neighbour_46 (by decide) ?_
        refine lv_iadd hx hb dX14_neighbour_47 ?_
        refine lv_topi (fun x_70 ex_70 => ?_)
        refine lv_istore (lv' := [(4, .int x_70), (3, .int x_66), (0, .ref pic), (1, .int pc), (2, .int sd)]) hx hb dX14_neighbour_48 hl (by decide) rfl (fun ls hl => ?_)
        refine lv_iload_n hx hb dX14_neighbour_50 rfl (lv_at hl 1 rfl) ?_
        refine lv_iconst (v := 0) hx hb dX14_neighbour_51 (by decide) ?_
        refine lv_bipush (v := 7) hx hb dX14_neighbour_52 (by decide) ?_
        have hPc := (hP.app hR).sub (ws' := [] ++ []) [] rfl
        have hDc := (en_DD hD hDr hN0 hAb).sub (ws' := [] ++ []) [] (by decide) rfl
        have hKc := hK.sub (tys' := []) [] rfl
        have hFc := va_free (wc := []) hD hS hA [] rfl
        refine va_calli (va_runSN (As := [.int x_66, .int 0, .int 7]) (rest := []) ⟨hx, hb, hml, hown, hts⟩ (c_X18_in l dC dI b0 en s.heap.size x_66 0 7) ⟨va_cnB 3 hts gX14_neighbour_X18_in_n87 rfl rfl rfl (hE.nm ("UnderpaintModel$Picture", 87, ⟨"UnderpaintModel", "in", "(III)Z"⟩, "UnderpaintModel") (by decide +kernel)) (hts (.initialized RX18) (by decide +kernel)) (by decide +kernel) ⟨Nat.le_of_ble_eq_true rfl, Nat.le_of_ble_eq_true rfl⟩, hts (.static yX18_in) (by decide +kernel), trivial⟩ ⟨cP.blind, cP.use (en_z hb0 hS) (hE.on hAb hS) hPc hKc hDc trivial⟩ rfl rfl hl.1 rfl (lv_room (Nat.le_of_ble_eq_true rfl)) dX14_neighbour_54 ⟨Nat.le_of_ble_eq_true rfl, Nat.le_of_ble_eq_true rfl⟩) hS (fun q _ h => hFc q h) hFc (fun r_71 u t H1 locs ht hvm hw hB hz1 hk1 hS => ?_)
        have hP1 : va_P (dC, dI) vwCl [] H1 := fun k q h => by simp at h
        have hD1 : va_D (va_A [] s.heap.size) [] := ⟨fun i j p q h => by simp at h, fun k q h => by simp at h⟩
        try dsimp only at hw
        obtain ⟨hP, hD⟩ := va_join (wr := []) (w1 := []) hP hD [] [] rfl rfl (by decide) (by decide) hk1 hFc hP1 hD1
        generalize H1 = H at hP hS ⊢
        have hP : va_P (dC, dI) vwCl [] H := hP
        have hD : va_D A [] := hD
        have hR : va_P (dC, dI) vwCl [] H := fun k q h => by simp at h
        refine W.widen (k := 0) (n := 0) (Nat.le_of_ble_eq_true rfl) (Nat.le_of_ble_eq_true rfl) ?_
        have h_72 := hw
        refine lv_if_eq (tgt := 80) hx hb dX14_neighbour_57 (by decide) (fun c_73 => ?_) (fun c_73 => ?_)
        · skip
          refine lv_iconst (v := (-1)) hx hb dX14_neighbour_80 (by decide) ?_
          refine W.widen (k := 0) (n := 0) (Nat.le_of_ble_eq_true rfl) (Nat.le_of_ble_eq_true rfl) ?_
          exact W.iret (v := (-1)) hx hb hr (fun t ht hW => ⟨⟨(-1), (), rfl, (z_c_X14_neighbour_60 pc sd x_1 x_66 x_67 x_70 r_71 ex_1 c_2 ex_66 ex_67 c_68 c_69 ex_70 h_72 c_73), trivial⟩, hS.F ht⟩) hS.2.2 dX14_neighbour_81
        · skip
          refine lv_iload hx hb dX14_neighbour_60 (lv_at hl 0 rfl) ?_
          refine lv_iconst (v := 0) hx hb dX14_neighbour_62 (by decide) ?_
          refine lv_iconst (v := 5) hx hb dX14_neighbour_63 (by decide) ?_
          have hPc := (hP.app hR).sub (ws' := [] ++ []) [] rfl
          have hDc := (en_DD hD hDr hN0 hAb).sub (ws' := [] ++ []) [] (by decide) rfl
          have hKc := hK.sub (tys' := []) [] rfl
          have hFc := va_free (wc := []) hD hS hA [] rfl
          refine va_calli (va_runSN (As := [.int x_70, .int 0, .int 5]) (rest := []) ⟨hx, hb, hml, hown, hts⟩ (c_X18_in l dC dI b0 en H.size x_70 0 5) ⟨va_cnB 3 hts gX14_neighbour_X18_in_n87 rfl rfl rfl (hE.nm ("UnderpaintModel$Picture", 87, ⟨"UnderpaintModel", "in", "(III)Z"⟩, "UnderpaintModel") (by decide +kernel)) (hts (.initialized RX18) (by decide +kernel)) (by decide +kernel) ⟨Nat.le_of_ble_eq_true rfl, Nat.le_of_ble_eq_true rfl⟩, hts (.static yX18_in) (by decide +kernel), trivial⟩ ⟨cP.blind, cP.use (en_z hb0 hS) (hE.on hAb hS) hPc hKc hDc trivial⟩ rfl rfl hl.1 rfl (lv_room (Nat.le_of_ble_eq_true rfl)) dX14_neighbour_64 ⟨Nat.le_of_ble_eq_true rfl, Nat.le_of_ble_eq_true rfl⟩) hS (fun q _ h => hFc q h) hFc (fun r_74 u t H1 locs ht hvm hw hB hz1 hk1 hS => ?_)
          have hP1 : va_P (dC, dI) vwCl [] H1 := fun k q h => by simp at h
          have hD1 : va_D (va_A [] H.size) [] := ⟨fun i j p q h => by simp at h, fun k q h => by simp at h⟩
          try dsimp only at hw
          obtain ⟨hP, hD⟩ := va_join (wr := []) (w1 := []) hP hD [] [] rfl rfl (by decide) (by decide) hk1 hFc hP1 hD1
          generalize H1 = H at hP hS ⊢
          have hP : va_P (dC, dI) vwCl [] H := hP
          have hD : va_D A [] := hD
          have hR : va_P (dC, dI) vwCl [] H := fun k q h => by simp at h
          refine W.widen (k := 0) (n := 0) (Nat.le_of_ble_eq_true rfl) (Nat.le_of_ble_eq_true rfl) ?_
          have h_75 := hw
          refine lv_if_eq (tgt := 80) hx hb dX14_neighbour_67 (by decide) (fun c_76 => ?_) (fun c_76 => ?_)
          · skip
            refine lv_iconst (v := (-1)) hx hb dX14_neighbour_80 (by decide) ?_
            refine W.widen (k := 0) (n := 0) (Nat.le_of_ble_eq_true rfl) (Nat.le_of_ble_eq_true rfl) ?_
            exact W.iret (v := (-1)) hx hb hr (fun t ht hW => ⟨⟨(-1), (), rfl, (z_c_X14_neighbour_61 pc sd x_1 x_66 x_67 x_70 r_71 r_74 ex_1 c_2 ex_66 ex_67 c_68 c_69 ex_70 h_72 c_73 h_75 c_76), trivial⟩, hS.F ht⟩) hS.2.2 dX14_neighbour_81
          · skip
            refine lv_bipush (v := 8) hx hb dX14_neighbour_70 (by decide) ?_
            refine lv_iload hx hb dX14_neighbour_72 (lv_at hl 0 rfl) ?_
            refine lv_imul hx hb dX14_neighbour_74 ?_
            refine lv_topi (fun x_77 ex_77 => ?_)
            refine lv_iload_n hx hb dX14_neighbour_75 rfl (lv_at hl 1 rfl) ?_
            refine lv_iadd hx hb dX14_neighbour_76 ?_
            refine lv_topi (fun x_78 ex_78 => ?_)
            refine lv_goto (tgt := 81) hx hb dX14_neighbour_77 (by decide) ?_
            refine W.widen (k := 0) (n := 0) (Nat.le_of_ble_eq_true rfl) (Nat.le_of_ble_eq_true rfl) ?_
            exact W.iret (v := x_78) hx hb hr (fun t ht hW => ⟨⟨x_78, (), rfl, (z_c_X14_neighbour_62 pc sd x_1 x_66 x_67 x_70 r_71 r_74 x_77 x_78 ex_1 c_2 ex_66 ex_67 c_68 c_69 ex_70 h_72 c_73 h_75 c_76 ex_77 ex_78), trivial⟩, hS.F ht⟩) hS.2.2 dX14_neighbour_81
      · skip
        refine lv_iconst (v := 1) hx hb dX14_neighbour_42 (by decide) ?_
        refine lv_goto (tgt := 47) hx hb dX14_neighbour_43 (by decide) ?_
        refine lv_iadd hx hb dX14_neighbour_47 ?_
        refine lv_topi (fun x_79 ex_79 => ?_)
        refine lv_istore (lv' := [(4, .int x_79), (3, .int x_66), (0, .ref pic), (1, .int pc), (2, .int sd)]) hx hb dX14_neighbour_48 hl (by decide) rfl (fun ls hl => ?_)
        refine lv_iload_n hx hb dX14_neighbour_50 rfl (lv_at hl 1 rfl) ?_
        refine lv_iconst (v := 0) hx hb dX14_neighbour_51 (by decide) ?_
        refine lv_bipush (v := 7) hx hb dX14_neighbour_52 (by decide) ?_
        have hPc := (hP.app hR).sub (ws' := [] ++ []) [] rfl
        have hDc := (en_DD hD hDr hN0 hAb).sub (ws' := [] ++ []) [] (by decide) rfl
        have hKc := hK.sub (tys' := []) [] rfl
        have hFc := va_free (wc := []) hD hS hA [] rfl
        refine va_calli (va_runSN (As := [.int x_66, .int 0, .int 7]) (rest := []) ⟨hx, hb, hml, hown, hts⟩ (c_X18_in l dC dI b0 en s.heap.size x_66 0 7) ⟨va_cnB 3 hts gX14_neighbour_X18_in_n87 rfl rfl rfl (hE.nm ("UnderpaintModel$Picture", 87, ⟨"UnderpaintModel", "in", "(III)Z"⟩, "UnderpaintModel") (by decide +kernel)) (hts (.initialized RX18) (by decide +kernel)) (by decide +kernel) ⟨Nat.le_of_ble_eq_true rfl, Nat.le_of_ble_eq_true rfl⟩, hts (.static yX18_in) (by decide +kernel), trivial⟩ ⟨cP.blind, cP.use (en_z hb0 hS) (hE.on hAb hS) hPc hKc hDc trivial⟩ rfl rfl hl.1 rfl (lv_room (Nat.le_of_ble_eq_true rfl)) dX14_neighbour_54 ⟨Nat.le_of_ble_eq_true rfl, Nat.le_of_ble_eq_true rfl⟩) hS (fun q _ h => hFc q h) hFc (fun r_80 u t H1 locs ht hvm hw hB hz1 hk1 hS => ?_)
        have hP1 : va_P (dC, dI) vwCl [] H1 := fun k q h => by simp at h
        have hD1 : va_D (va_A [] s.heap.size) [] := ⟨fun i j p q h => by simp at h, fun k q h => by simp at h⟩
        try dsimp only at hw
        obtain ⟨hP, hD⟩ := va_join (wr := []) (w1 := []) hP hD [] [] rfl rfl (by decide) (by decide) hk1 hFc hP1 hD1
        generalize H1 = H at hP hS ⊢
        have hP : va_P (dC, dI) vwCl [] H := hP
        have hD : va_D A [] := hD
        have hR : va_P (dC, dI) vwCl [] H := fun k q h => by simp at h
        refine W.widen (k := 0) (n := 0) (Nat.le_of_ble_eq_true rfl) (Nat.le_of_ble_eq_true rfl) ?_
        have h_81 := hw
        refine lv_if_eq (tgt := 80) hx hb dX14_neighbour_57 (by decide) (fun c_82 => ?_) (fun c_82 => ?_)
        · skip
          refine lv_iconst (v := (-1)) hx hb dX14_neighbour_80 (by decide) ?_
          refine W.widen (k := 0) (n := 0) (Nat.le_of_ble_eq_true rfl) (Nat.le_of_ble_eq_true rfl) ?_
          exact W.iret (v := (-1)) hx hb hr (fun t ht hW => ⟨⟨(-1), (), rfl, (z_c_X14_neighbour_63 pc sd x_1 x_66 x_67 x_79 r_80 ex_1 c_2 ex_66 ex_67 c_68 c_69 ex_79 h_81 c_82), trivial⟩, hS.F ht⟩) hS.2.2 dX14_neighbour_81
        · skip
          refine lv_iload hx hb dX14_neighbour_60 (lv_at hl 0 rfl) ?_
          refine lv_iconst (v := 0) hx hb dX14_neighbour_62 (by decide) ?_
          refine lv_iconst (v := 5) hx hb dX14_neighbour_63 (by decide) ?_
          have hPc := (hP.app hR).sub (ws' := [] ++ []) [] rfl
          have hDc := (en_DD hD hDr hN0 hAb).sub (ws' := [] ++ []) [] (by decide) rfl
          have hKc := hK.sub (tys' := []) [] rfl
          have hFc := va_free (wc := []) hD hS hA [] rfl
          refine va_calli (va_runSN (As := [.int x_79, .int 0, .int 5]) (rest := []) ⟨hx, hb, hml, hown, hts⟩ (c_X18_in l dC dI b0 en H.size x_79 0 5) ⟨va_cnB 3 hts gX14_neighbour_X18_in_n87 rfl rfl rfl (hE.nm ("UnderpaintModel$Picture", 87, ⟨"UnderpaintModel", "in", "(III)Z"⟩, "UnderpaintModel") (by decide +kernel)) (hts (.initialized RX18) (by decide +kernel)) (by decide +kernel) ⟨Nat.le_of_ble_eq_true rfl, Nat.le_of_ble_eq_true rfl⟩, hts (.static yX18_in) (by decide +kernel), trivial⟩ ⟨cP.blind, cP.use (en_z hb0 hS) (hE.on hAb hS) hPc hKc hDc trivial⟩ rfl rfl hl.1 rfl (lv_room (Nat.le_of_ble_eq_true rfl)) dX14_neighbour_64 ⟨Nat.le_of_ble_eq_true rfl, Nat.le_of_ble_eq_true rfl⟩) hS (fun q _ h => hFc q h) hFc (fun r_83 u t H1 locs ht hvm hw hB hz1 hk1 hS => ?_)
          have hP1 : va_P (dC, dI) vwCl [] H1 := fun k q h => by simp at h
          have hD1 : va_D (va_A [] H.size) [] := ⟨fun i j p q h => by simp at h, fun k q h => by simp at h⟩
          try dsimp only at hw
          obtain ⟨hP, hD⟩ := va_join (wr := []) (w1 := []) hP hD [] [] rfl rfl (by decide) (by decide) hk1 hFc hP1 hD1
          generalize H1 = H at hP hS ⊢
          have hP : va_P (dC, dI) vwCl [] H := hP
          have hD : va_D A [] := hD
          have hR : va_P (dC, dI) vwCl [] H := fun k q h => by simp at h
          refine W.widen (k := 0) (n := 0) (Nat.le_of_ble_eq_true rfl) (Nat.le_of_ble_eq_true rfl) ?_
          have h_84 := hw
          refine lv_if_eq (tgt := 80) hx hb dX14_neighbour_67 (by decide) (fun c_85 => ?_) (fun c_85 => ?_)
          · skip
            refine lv_iconst (v := (-1)) hx hb dX14_neighbour_80 (by decide) ?_
            refine W.widen (k := 0) (n := 0) (Nat.le_of_ble_eq_true rfl) (Nat.le_of_ble_eq_true rfl) ?_
            exact W.iret (v := (-1)) hx hb hr (fun t ht hW => ⟨⟨(-1), (), rfl, (z_c_X14_neighbour_64 pc sd x_1 x_66 x_67 x_79 r_80 r_83 ex_1 c_2 ex_66 ex_67 c_68 c_69 ex_79 h_81 c_82 h_84 c_85), trivial⟩, hS.F ht⟩) hS.2.2 dX14_neighbour_81
          · skip
            refine lv_bipush (v := 8) hx hb dX14_neighbour_70 (by decide) ?_
            refine lv_iload hx hb dX14_neighbour_72 (lv_at hl 0 rfl) ?_
            refine lv_imul hx hb dX14_neighbour_74 ?_
            refine lv_topi (fun x_86 ex_86 => ?_)
            refine lv_iload_n hx hb dX14_neighbour_75 rfl (lv_at hl 1 rfl) ?_
            refine lv_iadd hx hb dX14_neighbour_76 ?_
            refine lv_topi (fun x_87 ex_87 => ?_)
            refine lv_goto (tgt := 81) hx hb dX14_neighbour_77 (by decide) ?_
            refine W.widen (k := 0) (n := 0) (Nat.le_of_ble_eq_true rfl) (Nat.le_of_ble_eq_true rfl) ?_
            exact W.iret (v := x_87) hx hb hr (fun t ht hW => ⟨⟨x_87, (), rfl, (z_c_X14_neighbour_65 pc sd x_1 x_66 x_67 x_79 r_80 r_83 x_86 x_87 ex_1 c_2 ex_66 ex_67 c_68 c_69 ex_79 h_81 c_82 h_84 c_85 ex_86 ex_87), trivial⟩, hS.F ht⟩) hS.2.2 dX14_neighbour_81
    · skip
      refine lv_iconst (v := (-1)) hx hb dX14_neighbour_33 (by decide) ?_
      refine lv_goto (tgt := 47) hx hb dX14_neighbour_34 (by decide) ?_
      refine lv_iadd hx hb dX14_neighbour_47 ?_
      refine lv_topi (fun x_88 ex_88 => ?_)
      refine lv_istore (lv' := [(4, .int x_88), (3, .int x_66), (0, .ref pic), (1, .int pc), (2, .int sd)]) hx hb dX14_neighbour_48 hl (by decide) rfl (fun ls hl => ?_)
      refine lv_iload_n hx hb dX14_neighbour_50 rfl (lv_at hl 1 rfl) ?_
      refine lv_iconst (v := 0) hx hb dX14_neighbour_51 (by decide) ?_
      refine lv_bipush (v := 7) hx hb dX14_neighbour_52 (by decide) ?_
      have hPc := (hP.app hR).sub (ws' := [] ++ []) [] rfl
      have hDc := (en_DD hD hDr hN0 hAb).sub (ws' := [] ++ []) [] (by decide) rfl
      have hKc := hK.sub (tys' := []) [] rfl
      have hFc := va_free (wc := []) hD hS hA [] rfl
      refine va_calli (va_runSN (As := [.int x_66, .int 0, .int 7]) (rest := []) ⟨hx, hb, hml, hown, hts⟩ (c_X18_in l dC dI b0 en s.heap.size x_66 0 7) ⟨va_cnB 3 hts gX14_neighbour_X18_in_n87 rfl rfl rfl (hE.nm ("UnderpaintModel$Picture", 87, ⟨"UnderpaintModel", "in", "(III)Z"⟩, "UnderpaintModel") (by decide +kernel)) (hts (.initialized RX18) (by decide +kernel)) (by decide +kernel) ⟨Nat.le_of_ble_eq_true rfl, Nat.le_of_ble_eq_true rfl⟩, hts (.static yX18_in) (by decide +kernel), trivial⟩ ⟨cP.blind, cP.use (en_z hb0 hS) (hE.on hAb hS) hPc hKc hDc trivial⟩ rfl rfl hl.1 rfl (lv_room (Nat.le_of_ble_eq_true rfl)) dX14_neighbour_54 ⟨Nat.le_of_ble_eq_true rfl, Nat.le_of_ble_eq_true rfl⟩) hS (fun q _ h => hFc q h) hFc (fun r_89 u t H1 locs ht hvm hw hB hz1 hk1 hS => ?_)
      have hP1 : va_P (dC, dI) vwCl [] H1 := fun k q h => by simp at h
      have hD1 : va_D (va_A [] s.heap.size) [] := ⟨fun i j p q h => by simp at h, fun k q h => by simp at h⟩
      try dsimp only at hw
      obtain ⟨hP, hD⟩ := va_join (wr := []) (w1 := []) hP hD [] [] rfl rfl (by decide) (by decide) hk1 hFc hP1 hD1
      generalize H1 = H at hP hS ⊢
      have hP : va_P (dC, dI) vwCl [] H := hP
      have hD : va_D A [] := hD
      have hR : va_P (dC, dI) vwCl [] H := fun k q h => by simp at h
      refine W.widen (k := 0) (n := 0) (Nat.le_of_ble_eq_true rfl) (Nat.le_of_ble_eq_true rfl) ?_
      have h_90 := hw
      refine lv_if_eq (tgt := 80) hx hb dX14_neighbour_57 (by decide) (fun c_91 => ?_) (fun c_91 => ?_)
      · skip
        refine lv_iconst (v := (-1)) hx hb dX14_neighbour_80 (by decide) ?_
        refine W.widen (k := 0) (n := 0) (Nat.le_of_ble_eq_true rfl) (Nat.le_of_ble_eq_true rfl) ?_
        exact W.iret (v := (-1)) hx hb hr (fun t ht hW => ⟨⟨(-1), (), rfl, (z_c_X14_neighbour_66 pc sd x_1 x_66 x_67 x_88 r_89 ex_1 c_2 ex_66 ex_67 c_68 ex_88 h_90 c_91), trivial⟩, hS.F ht⟩) hS.2.2 dX14_neighbour_81
      · skip
        refine lv_iload hx hb dX14_neighbour_60 (lv_at hl 0 rfl) ?_
        refine lv_iconst (v := 0) hx hb dX14_neighbour_62 (by decide) ?_
        refine lv_iconst (v := 5) hx hb dX14_neighbour_63 (by decide) ?_
        have hPc := (hP.app hR).sub (ws' := [] ++ []) [] rfl
        have hDc := (en_DD hD hDr hN0 hAb).sub (ws' := [] ++ []) [] (by decide) rfl
        have hKc := hK.sub (tys' := []) [] rfl
        have hFc := va_free (wc := []) hD hS hA [] rfl
        refine va_calli (va_runSN (As := [.int x_88, .int 0, .int 5]) (rest := []) ⟨hx, hb, hml, hown, hts⟩ (c_X18_in l dC dI b0 en H.size x_88 0 5) ⟨va_cnB 3 hts gX14_neighbour_X18_in_n87 rfl rfl rfl (hE.nm ("UnderpaintModel$Picture", 87, ⟨"UnderpaintModel", "in", "(III)Z"⟩, "UnderpaintModel") (by decide +kernel)) (hts (.initialized RX18) (by decide +kernel)) (by decide +kernel) ⟨Nat.le_of_ble_eq_true rfl, Nat.le_of_ble_eq_true rfl⟩, hts (.static yX18_in) (by decide +kernel), trivial⟩ ⟨cP.blind, cP.use (en_z hb0 hS) (hE.on hAb hS) hPc hKc hDc trivial⟩ rfl rfl hl.1 rfl (lv_room (Nat.le_of_ble_eq_true rfl)) dX14_neighbour_64 ⟨Nat.le_of_ble_eq_true rfl, Nat.le_of_ble_eq_true rfl⟩) hS (fun q _ h => hFc q h) hFc (fun r_92 u t H1 locs ht hvm hw hB hz1 hk1 hS => ?_)
        have hP1 : va_P (dC, dI) vwCl [] H1 := fun k q h => by simp at h
        have hD1 : va_D (va_A [] H.size) [] := ⟨fun i j p q h => by simp at h, fun k q h => by simp at h⟩
        try dsimp only at hw
        obtain ⟨hP, hD⟩ := va_join (wr := []) (w1 := []) hP hD [] [] rfl rfl (by decide) (by decide) hk1 hFc hP1 hD1
        generalize H1 = H at hP hS ⊢
        have hP : va_P (dC, dI) vwCl [] H := hP
        have hD : va_D A [] := hD
        have hR : va_P (dC, dI) vwCl [] H := fun k q h => by simp at h
        refine W.widen (k := 0) (n := 0) (Nat.le_of_ble_eq_true rfl) (Nat.le_of_ble_eq_true rfl) ?_
        have h_93 := hw
        refine lv_if_eq (tgt := 80) hx hb dX14_neighbour_67 (by decide) (fun c_94 => ?_) (fun c_94 => ?_)
        · skip
          refine lv_iconst (v := (-1)) hx hb dX14_neighbour_80 (by decide) ?_
          refine W.widen (k := 0) (n := 0) (Nat.le_of_ble_eq_true rfl) (Nat.le_of_ble_eq_true rfl) ?_
          exact W.iret (v := (-1)) hx hb hr (fun t ht hW => ⟨⟨(-1), (), rfl, (z_c_X14_neighbour_67 pc sd x_1 x_66 x_67 x_88 r_89 r_92 ex_1 c_2 ex_66 ex_67 c_68 ex_88 h_90 c_91 h_93 c_94), trivial⟩, hS.F ht⟩) hS.2.2 dX14_neighbour_81
        · skip
          refine lv_bipush (v := 8) hx hb dX14_neighbour_70 (by decide) ?_
          refine lv_iload hx hb dX14_neighbour_72 (lv_at hl 0 rfl) ?_
          refine lv_imul hx hb dX14_neighbour_74 ?_
          refine lv_topi (fun x_95 ex_95 => ?_)
          refine lv_iload_n hx hb dX14_neighbour_75 rfl (lv_at hl 1 rfl) ?_
          refine lv_iadd hx hb dX14_neighbour_76 ?_
          refine lv_topi (fun x_96 ex_96 => ?_)
          refine lv_goto (tgt := 81) hx hb dX14_neighbour_77 (by decide) ?_
          refine W.widen (k := 0) (n := 0) (Nat.le_of_ble_eq_true rfl) (Nat.le_of_ble_eq_true rfl) ?_
          exact W.iret (v := x_96) hx hb hr (fun t ht hW => ⟨⟨x_96, (), rfl, (z_c_X14_neighbour_68 pc sd x_1 x_66 x_67 x_88 r_89 r_92 x_95 x_96 ex_1 c_2 ex_66 ex_67 c_68 ex_88 h_90 c_91 h_93 c_94 ex_95 ex_96), trivial⟩, hS.F ht⟩) hS.2.2 dX14_neighbour_81
theorem z_c_X14_raking_69 (pc : Int32) (a_0 : 0 ≤ pc) (a_1 : pc < 48) : (0 : Int32) = 0 := by grind
theorem z_c_X14_raking_70 (pc : Int32) (k_1 : Nat) (r_9 : Int32) (a_0 : 0 ≤ pc) (a_1 : pc < 48) (a_2 : 0 ≤ nI k_1 ∧ nI k_1 < 4) (a_3 : r_9 = -1 ∨ (0 ≤ r_9 ∧ r_9 < 48)) (a_4 : 0 ≤ r_9) : 0 ≤ r_9 := by grind
theorem z_c_X14_raking_71 (pc : Int32) (k_1 : Nat) (r_9 : Int32) (a_0 : 0 ≤ pc) (a_1 : pc < 48) (a_2 : 0 ≤ nI k_1 ∧ nI k_1 < 4) (a_3 : r_9 = -1 ∨ (0 ≤ r_9 ∧ r_9 < 48)) (a_4 : 0 ≤ r_9) : r_9 < 48 := by grind
theorem z_c_X14_raking_72 (pc : Int32) (k_1 : Nat) (r_9 : Int32) (a_0 : 0 ≤ pc) (a_1 : pc < 48) (a_2 : 0 ≤ nI k_1 ∧ nI k_1 < 4) (a_3 : r_9 = -1 ∨ (0 ≤ r_9 ∧ r_9 < 48)) (a_4 : 0 ≤ r_9) : 0 ≤ pc := by grind
theorem z_c_X14_raking_73 (pc : Int32) (k_1 : Nat) (r_9 : Int32) (a_0 : 0 ≤ pc) (a_1 : pc < 48) (a_2 : 0 ≤ nI k_1 ∧ nI k_1 < 4) (a_3 : r_9 = -1 ∨ (0 ≤ r_9 ∧ r_9 < 48)) (a_4 : 0 ≤ r_9) : pc < 48 := by grind
set_option maxHeartbeats 4000000 in
set_option maxRecDepth 100000 in
/-- Picture.raking of a new picture -/
theorem c_X14_raking (l : Launch) (dC : Nat → ClassId) (dI : Nat → Nat → Nat) (b0 : Nat) (en : EnT) (sz : Nat) (pic ap scr mm : Nat) (g : Nat → Option Nat) (kP : ClassId) (N : Nat → Prop) (pc : Int32) (h0 : 0 ≤ pc) (h1 : pc < 48) (hNb : ∀ a, N a → b0 ≤ a ∧ a < sz) (hNw : ∀ a, N a → a ∉ List.map Prod.fst ([] : va_W)) (hNr : ∀ a, N a → a ∉ List.map Prod.fst ([(pic, .inr (20, [.ref ap, .ref scr, .int 1600, .int 0, .int 0, .ref mm])), (ap, .inl (kP, 48, .inr (.inr (.inr (.inr g)))))] : va_W)) : Met l yX14_raking wsX14_raking ({ frames := 4, cells := 8, slots := 32, locals := 94 } : Room) (cP b0 en (dC, dI) [(kP, .object "UnderpaintModel$Place")] [] [(pic, .inr (20, [.ref ap, .ref scr, .int 1600, .int 0, .int 0, .ref mm])), (ap, .inl (kP, 48, .inr (.inr (.inr (.inr g)))))] sz (FamP (dC, dI) N en.2.2.1 g) [.ref pic, .int pc]) (va_Qi (fun (r : Int32) (_ : Unit) => r = 0) (fun _ _ => True) (va_A [] sz)) 8 32 (va_A [] sz) := by
  refine Met.ofW (cc := cX14_raking) (maxL := 5) (ret := (some .int)) (by decide) rfl ?_
  intro p e s m args below meth c s₁ B hml hv
  obtain ⟨rfl, hsz, hb0, hE, hPP, hK, hDD, hF0⟩ := hv
  have hx := B.exec
  have hb := B.bytes
  have hr := B.returns
  have hts := atoms_spec (ws := wsX14_raking) B.pre
  have hown : s.vm.findClass RX14 = some m.cls := findClass_of_methodNamed B.named
  have hlocks := B.notSynchronized
  subst hsz
  have hN0 := en_N hPP hDD rfl
  have hP : va_P (dC, dI) vwCl [] s.heap := hPP.sub [] rfl
  have hR0 : va_P (dC, dI) vwCl [(pic, .inr (20, [.ref ap, .ref scr, .int 1600, .int 0, .int 0, .ref mm])), (ap, .inl (kP, 48, .inr (.inr (.inr (.inr g)))))] s.heap := hPP.sub [0, 1] rfl
  have hD0 : va_D (fun q => b0 ≤ q) [] := hDD.sub [] (by decide) rfl
  have hDr : va_D (fun q => b0 ≤ q) [(pic, .inr (20, [.ref ap, .ref scr, .int 1600, .int 0, .int 0, .ref mm])), (ap, .inl (kP, 48, .inr (.inr (.inr (.inr g)))))] := hDD.sub [0, 1] (by decide) rfl
  have hAb := en_A (sz := s.heap.size) hD0 hb0
  have hD := hD0.self (sz := s.heap.size)
  generalize hAe : va_A [] s.heap.size = A at hD hAb hN0 ⊢
  have hA : ∀ q : Nat, s.heap.size ≤ q → A q := fun q h => by rw [← hAe]; exact Or.inr h
  have hS : va_S A s.heap s.heap [] := va_S.rf
  have hR := hR0
  have hl := lv_entry [.ref pic, .int pc] (n := 5) (Nat.le_of_ble_eq_true rfl)
  rw [lg_entry_eq]
  generalize (lg_sl [.ref pic, .int pc] ++ List.replicate (5 - (lg_sl [.ref pic, .int pc]).length) Slot.unset).toArray = ls at hl ⊢
  have hl : lv_has ls 5 [(0, .ref pic), (1, .int pc)] := hl
  refine W.gen (fun Q hQ => ?_)
  have hR0b := hR0
  have hDrb := hDr
  have hN0b := hN0
  refine lv_iconst (v := 0) hx hb dX14_raking_0 (by decide) ?_
  refine lv_istore_n (lv' := [(2, .int 0), (0, .ref pic), (1, .int pc)]) hx hb dX14_raking_1 rfl hl (by decide) rfl (fun ls hl => ?_)
  refine lv_iconst (v := 0) hx hb dX14_raking_2 (by decide) ?_
  refine lv_istore_n (lv' := [(3, .int 0), (2, .int 0), (0, .ref pic), (1, .int pc)]) hx hb dX14_raking_3 rfl hl (by decide) rfl (fun ls hl => ?_)
  have loop_4 : ∀ (n_2 k_1 : Nat), k_1 + n_2 = 4 → ∀ (H : Heap) (locs : List Loc), va_P (dC, dI) vwCl [] H → va_D A [] → va_S A s.heap H locs → ∀ ls : Array Slot, lv_has ls 5 [(3, .int (nI k_1)), (2, .int 0), (0, .ref pic), (1, .int pc)] → W p l e (headSpec wsX14_raking ({ frames := 4, cells := 8, slots := 32, locals := 94 } : Room)).room s m #[.ref pic, .int pc] below meth c H locs (0 + 2 * k_1) (0 + 8 * k_1) Q (F0 m 4 ls []) := by
    intro n_2
    induction n_2 with
    | zero =>
      intro k_1 hk_3 H locs hP hD hS ls hl
      have ek_1 : k_1 = 4 := by omega
      subst ek_1
      have hl : lv_has ls 5 [(3, .int 4), (2, .int 0), (0, .ref pic), (1, .int pc)] := hl
      refine W.widen (k := 8) (n := 32) (Nat.le_of_ble_eq_true rfl) (Nat.le_of_ble_eq_true rfl) ?_
      have hR := en_R hR0 hN0 hS
      refine lv_iload_n hx hb dX14_raking_4 rfl (lv_at hl 0 rfl) ?_
      refine lv_iconst (v := 4) hx hb dX14_raking_5 (by decide) ?_
      refine lv_icmp_ge (tgt := 60) hx hb dX14_raking_6 (by decide) (fun c_5 => ?_) (fun c_5 => absurd c_5 (by decide))
      refine lv_iload_n hx hb dX14_raking_60 rfl (lv_at hl 1 rfl) ?_
      subst hQ
      refine W.widen (k := 8) (n := 32) (Nat.le_of_ble_eq_true rfl) (Nat.le_of_ble_eq_true rfl) ?_
      exact W.iret (v := 0) hx hb hr (fun t ht hW => ⟨⟨0, (), rfl, (z_c_X14_raking_69 pc h0 h1), trivial⟩, hS.F ht⟩) hS.2.2 dX14_raking_61
    | succ n_2 ih =>
      intro k_1 hk_3 H locs hP hD hS ls hl
      have hk_6 : k_1 < 4 := by omega
      have hb_7 : 0 ≤ nI k_1 ∧ nI k_1 < 4 := ⟨nI_le (Nat.zero_le _) (by omega), nI_lk hk_6 (by decide)⟩
      have hR := en_R hR0 hN0 hS
      refine lv_iload_n hx hb dX14_raking_4 rfl (lv_at hl 0 rfl) ?_
      refine lv_iconst (v := 4) hx hb dX14_raking_5 (by decide) ?_
      refine lv_icmp_ge (tgt := 60) hx hb dX14_raking_6 (by decide) (fun c_8 => ?_) (fun c_8 => ?_)
      · skip
        first | exact absurd c_8 (nI_ge hk_6 (by decide)) | exact absurd (nI_lk hk_6 (by decide)) c_8
      · skip
        refine lv_aload_n hx hb dX14_raking_9 rfl (lv_at hl 2 rfl) ?_
        refine lv_iload_n hx hb dX14_raking_10 rfl (lv_at hl 3 rfl) ?_
        refine lv_iload_n hx hb dX14_raking_11 rfl (lv_at hl 0 rfl) ?_
        have hPc := (hP.app hR).sub (ws' := [] ++ []) [] rfl
        have hDc := (en_DD hD hDr hN0 hAb).sub (ws' := [] ++ []) [] (by decide) rfl
        have hKc := hK.sub (tys' := []) [] rfl
        have hFc := va_free (wc := []) hD hS hA [] rfl
        refine va_calli (va_runV (As := [.int pc, .int (nI k_1)]) (rest := []) ⟨hx, hb, hml, hown, hts⟩ (c_X14_neighbour l dC dI b0 en H.size pic pc (nI k_1)) (cwV 2 hts gX14_raking_X14_neighbour rfl rfl rfl (by decide +kernel) ⟨Nat.le_of_ble_eq_true rfl, Nat.le_of_ble_eq_true rfl⟩) ⟨cP.blind, va_recv hK hR (ci := 20) (q0 := 0) rfl rfl, cP.use (en_z hb0 hS) (hE.on hAb hS) hPc hKc hDc trivial⟩ rfl rfl hl.1 rfl (lv_room (Nat.le_of_ble_eq_true rfl)) dX14_raking_12 ⟨(by show (_ : Nat) ≤ 8; omega), (by show (_ : Nat) ≤ 32; omega)⟩) hS (fun q _ h => hFc q h) hFc (fun r_9 u t H1 locs ht hvm hw hB hz1 hk1 hS => ?_)
        have hP1 : va_P (dC, dI) vwCl [] H1 := fun k q h => by simp at h
        have hD1 : va_D (va_A [] H.size) [] := ⟨fun i j p q h => by simp at h, fun k q h => by simp at h⟩
        try dsimp only at hw
        obtain ⟨hP, hD⟩ := va_join (wr := []) (w1 := []) hP hD [] [] rfl rfl (by decide) (by decide) hk1 hFc hP1 hD1
        generalize H1 = H at hP hS ⊢
        have hP : va_P (dC, dI) vwCl [] H := hP
        have hD : va_D A [] := hD
        have hR := en_R hR0 hN0 hS
        refine W.widen (k := (0 + 2 * k_1)) (n := (0 + 8 * k_1)) (by omega) (by omega) ?_
        have h_10 := hw
        refine lv_istore (lv' := [(4, .int r_9), (3, .int (nI k_1)), (2, .int 0), (0, .ref pic), (1, .int pc)]) hx hb dX14_raking_15 hl (by decide) rfl (fun ls hl => ?_)
        refine lv_iload hx hb dX14_raking_17 (lv_at hl 0 rfl) ?_
        refine lv_if_ge (tgt := 26) hx hb dX14_raking_19 (by decide) (fun c_11 => ?_) (fun c_11 => ?_)
        · skip
          refine lv_iload_n hx hb dX14_raking_26 rfl (lv_at hl 2 rfl) ?_
          refine lv_aload_n hx hb dX14_raking_27 rfl (lv_at hl 3 rfl) ?_
          refine va_get (D := (dC, dI)) (ci := 20) (v := .ref ap) (C := RX14) (T := TX14) (N := 6) hx hb hts (by decide +kernel) hown hK hR 0 rfl rfl 0 (by decide) (hts (.fieldLink RX14 17 "UnderpaintModel$Picture" "at" "[LUnderpaintModel$Place;") (by decide +kernel)) (fun _ h9 => h9) rfl dX14_raking_28 ?_
          refine lv_iload hx hb dX14_raking_31 (lv_at hl 0 rfl) ?_
          obtain ⟨i_12, hi_i_12, hx_i_12⟩ := (ix48 (z_c_X14_raking_70 pc k_1 r_9 h0 h1 hb_7 h_10 c_11) (z_c_X14_raking_71 pc k_1 r_9 h0 h1 hb_7 h_10 c_11))
          refine va_aldq hx hb hK hR 1 0 rfl rfl (pl_in hi_i_12 hx_i_12) dX14_raking_33 ?_
          obtain ⟨ap_13, lp_13, hgp_13, hup_13, hvp_13, hnp_13, hmp_13, hdp_13⟩ := hF0 i_12 hi_i_12
          refine lv_topv (w := .ref ap_13) (by rw [pl_cl hi_i_12 hx_i_12, hgp_13]; rfl) ?_
          have hxp_13 : ¬ A ap_13 := by rw [← hAe]; exact vA0 hup_13.lt
          have hyp_13 : ¬ A lp_13 := by rw [← hAe]; exact vA0 hvp_13.lt
          have hR0 : va_P (dC, dI) vwCl [(pic, .inr (20, [.ref ap, .ref scr, .int 1600, .int 0, .int 0, .ref mm])), (ap, .inl (kP, 48, .inr (.inr (.inr (.inr g))))), (ap_13, .inr (21, [.int (nI i_12), .ref lp_13, .int 0])), (lp_13, .inr (5, [.int 0, .ref en.2.2.1, .int 0]))] s.heap := ((hR0b.app (va1 hup_13)).app (va1 hvp_13))
          have hDr : va_D (fun q => b0 ≤ q) [(pic, .inr (20, [.ref ap, .ref scr, .int 1600, .int 0, .int 0, .ref mm])), (ap, .inl (kP, 48, .inr (.inr (.inr (.inr g))))), (ap_13, .inr (21, [.int (nI i_12), .ref lp_13, .int 0])), (lp_13, .inr (5, [.int 0, .ref en.2.2.1, .int 0]))] := (vD_push (vD_push hDrb (hNb ap_13 hnp_13).1 (nR (hNr ap_13 hnp_13))) (hNb lp_13 hmp_13).1 (vR_push (nR (hNr lp_13 hmp_13)) hdp_13))
          have hN0 : ∀ (k : Nat) (q : Nat × va_E), [(pic, .inr (20, [.ref ap, .ref scr, .int 1600, .int 0, .int 0, .ref mm])), (ap, .inl (kP, 48, .inr (.inr (.inr (.inr g))))), (ap_13, .inr (21, [.int (nI i_12), .ref lp_13, .int 0])), (lp_13, .inr (5, [.int 0, .ref en.2.2.1, .int 0]))][k]? = some q → ¬ A q.1 := (vN_push (vN_push hN0b hxp_13) hyp_13)
          have hR : va_P (dC, dI) vwCl [(pic, .inr (20, [.ref ap, .ref scr, .int 1600, .int 0, .int 0, .ref mm])), (ap, .inl (kP, 48, .inr (.inr (.inr (.inr g))))), (ap_13, .inr (21, [.int (nI i_12), .ref lp_13, .int 0])), (lp_13, .inr (5, [.int 0, .ref en.2.2.1, .int 0]))] H := en_R hR0 hN0 hS
          have hPc := (hP.app hR).sub (ws' := [] ++ [(ap_13, .inr (21, [.int (nI i_12), .ref lp_13, .int 0])), (lp_13, .inr (5, [.int 0, .ref en.2.2.1, .int 0]))]) [2, 3] rfl
          have hDc := (en_DD hD hDr hN0 hAb).sub (ws' := [] ++ [(ap_13, .inr (21, [.int (nI i_12), .ref lp_13, .int 0])), (lp_13, .inr (5, [.int 0, .ref en.2.2.1, .int 0]))]) [2, 3] (by decide) rfl
          have hKc := hK.sub (tys' := []) [] rfl
          have hFc := va_free (wc := []) hD hS hA [] rfl
          refine va_calli (va_runV (As := []) (rest := [.int 0]) ⟨hx, hb, hml, hown, hts⟩ (c_X15_sum l dC dI b0 en H.size ap_13 lp_13 (nI i_12)) (cwV 0 hts gX14_raking_X15_sum rfl rfl rfl (by decide +kernel) ⟨Nat.le_of_ble_eq_true rfl, Nat.le_of_ble_eq_true rfl⟩) ⟨cP.blind, va_recv hK hR (ci := 21) (q0 := 2) rfl rfl, cP.use (en_z hb0 hS) (hE.on hAb hS) hPc hKc hDc trivial⟩ rfl rfl hl.1 rfl (lv_room (Nat.le_of_ble_eq_true rfl)) dX14_raking_34 ⟨(by show (_ : Nat) ≤ 8; omega), (by show (_ : Nat) ≤ 32; omega)⟩) hS (fun q _ h => hFc q h) hFc (fun r_14 u t H1 locs ht hvm hw hB hz1 hk1 hS => ?_)
          have hP1 : va_P (dC, dI) vwCl [] H1 := fun k q h => by simp at h
          have hD1 : va_D (va_A [] H.size) [] := ⟨fun i j p q h => by simp at h, fun k q h => by simp at h⟩
          try dsimp only at hw
          obtain ⟨hP, hD⟩ := va_join (wr := []) (w1 := []) hP hD [] [] rfl rfl (by decide) (by decide) hk1 hFc hP1 hD1
          generalize H1 = H at hP hS ⊢
          have hP : va_P (dC, dI) vwCl [] H := hP
          have hD : va_D A [] := hD
          have hR := en_R hR0 hN0 hS
          refine W.widen (k := (1 + 2 * k_1)) (n := (4 + 8 * k_1)) (by omega) (by omega) ?_
          subst r_14
          refine lv_aload_n hx hb dX14_raking_37 rfl (lv_at hl 3 rfl) ?_
          refine va_get (D := (dC, dI)) (ci := 20) (v := .ref ap) (C := RX14) (T := TX14) (N := 6) hx hb hts (by decide +kernel) hown hK hR 0 rfl rfl 0 (by decide) (hts (.fieldLink RX14 17 "UnderpaintModel$Picture" "at" "[LUnderpaintModel$Place;") (by decide +kernel)) (fun _ h9 => h9) rfl dX14_raking_38 ?_
          refine lv_iload_n hx hb dX14_raking_41 rfl (lv_at hl 4 rfl) ?_
          obtain ⟨i_15, hi_i_15, hx_i_15⟩ := (ix48 (z_c_X14_raking_72 pc k_1 r_9 h0 h1 hb_7 h_10 c_11) (z_c_X14_raking_73 pc k_1 r_9 h0 h1 hb_7 h_10 c_11))
          refine va_aldq hx hb hK hR 1 0 rfl rfl (pl_in hi_i_15 hx_i_15) dX14_raking_42 ?_
          obtain ⟨ap_16, lp_16, hgp_16, hup_16, hvp_16, hnp_16, hmp_16, hdp_16⟩ := hF0 i_15 hi_i_15
          refine lv_topv (w := .ref ap_16) (by rw [pl_cl hi_i_15 hx_i_15, hgp_16]; rfl) ?_
          have hxp_16 : ¬ A ap_16 := by rw [← hAe]; exact vA0 hup_16.lt
          have hyp_16 : ¬ A lp_16 := by rw [← hAe]; exact vA0 hvp_16.lt
          have hR0 : va_P (dC, dI) vwCl [(pic, .inr (20, [.ref ap, .ref scr, .int 1600, .int 0, .int 0, .ref mm])), (ap, .inl (kP, 48, .inr (.inr (.inr (.inr g))))), (ap_16, .inr (21, [.int (nI i_15), .ref lp_16, .int 0])), (lp_16, .inr (5, [.int 0, .ref en.2.2.1, .int 0]))] s.heap := ((hR0b.app (va1 hup_16)).app (va1 hvp_16))
          have hDr : va_D (fun q => b0 ≤ q) [(pic, .inr (20, [.ref ap, .ref scr, .int 1600, .int 0, .int 0, .ref mm])), (ap, .inl (kP, 48, .inr (.inr (.inr (.inr g))))), (ap_16, .inr (21, [.int (nI i_15), .ref lp_16, .int 0])), (lp_16, .inr (5, [.int 0, .ref en.2.2.1, .int 0]))] := (vD_push (vD_push hDrb (hNb ap_16 hnp_16).1 (nR (hNr ap_16 hnp_16))) (hNb lp_16 hmp_16).1 (vR_push (nR (hNr lp_16 hmp_16)) hdp_16))
          have hN0 : ∀ (k : Nat) (q : Nat × va_E), [(pic, .inr (20, [.ref ap, .ref scr, .int 1600, .int 0, .int 0, .ref mm])), (ap, .inl (kP, 48, .inr (.inr (.inr (.inr g))))), (ap_16, .inr (21, [.int (nI i_15), .ref lp_16, .int 0])), (lp_16, .inr (5, [.int 0, .ref en.2.2.1, .int 0]))][k]? = some q → ¬ A q.1 := (vN_push (vN_push hN0b hxp_16) hyp_16)
          have hR : va_P (dC, dI) vwCl [(pic, .inr (20, [.ref ap, .ref scr, .int 1600, .int 0, .int 0, .ref mm])), (ap, .inl (kP, 48, .inr (.inr (.inr (.inr g))))), (ap_16, .inr (21, [.int (nI i_15), .ref lp_16, .int 0])), (lp_16, .inr (5, [.int 0, .ref en.2.2.1, .int 0]))] H := en_R hR0 hN0 hS
          have hPc := (hP.app hR).sub (ws' := [] ++ [(ap_16, .inr (21, [.int (nI i_15), .ref lp_16, .int 0])), (lp_16, .inr (5, [.int 0, .ref en.2.2.1, .int 0]))]) [2, 3] rfl
          have hDc := (en_DD hD hDr hN0 hAb).sub (ws' := [] ++ [(ap_16, .inr (21, [.int (nI i_15), .ref lp_16, .int 0])), (lp_16, .inr (5, [.int 0, .ref en.2.2.1, .int 0]))]) [2, 3] (by decide) rfl
          have hKc := hK.sub (tys' := []) [] rfl
          have hFc := va_free (wc := []) hD hS hA [] rfl
          refine va_calli (va_runV (As := []) (rest := [.int 0, .int 0]) ⟨hx, hb, hml, hown, hts⟩ (c_X15_sum l dC dI b0 en H.size ap_16 lp_16 (nI i_15)) (cwV 0 hts gX14_raking_X15_sum rfl rfl rfl (by decide +kernel) ⟨Nat.le_of_ble_eq_true rfl, Nat.le_of_ble_eq_true rfl⟩) ⟨cP.blind, va_recv hK hR (ci := 21) (q0 := 2) rfl rfl, cP.use (en_z hb0 hS) (hE.on hAb hS) hPc hKc hDc trivial⟩ rfl rfl hl.1 rfl (lv_room (Nat.le_of_ble_eq_true rfl)) dX14_raking_43 ⟨(by show (_ : Nat) ≤ 8; omega), (by show (_ : Nat) ≤ 32; omega)⟩) hS (fun q _ h => hFc q h) hFc (fun r_17 u t H1 locs ht hvm hw hB hz1 hk1 hS => ?_)
          have hP1 : va_P (dC, dI) vwCl [] H1 := fun k q h => by simp at h
          have hD1 : va_D (va_A [] H.size) [] := ⟨fun i j p q h => by simp at h, fun k q h => by simp at h⟩
          try dsimp only at hw
          obtain ⟨hP, hD⟩ := va_join (wr := []) (w1 := []) hP hD [] [] rfl rfl (by decide) (by decide) hk1 hFc hP1 hD1
          generalize H1 = H at hP hS ⊢
          have hP : va_P (dC, dI) vwCl [] H := hP
          have hD : va_D A [] := hD
          have hR := en_R hR0 hN0 hS
          refine W.widen (k := (2 + 2 * k_1)) (n := (8 + 8 * k_1)) (by omega) (by omega) ?_
          subst r_17
          refine lv_isub hx hb dX14_raking_46 ?_
          refine lv_topi (fun x_18 ex_18 => ?_)
          obtain rfl : x_18 = 0 := ex_18.trans (by decide)
          refine va_mabs hx hb (hml.trans hl.1.symm) hown (hts (.methodLink RX14 104 Lib.Math.abs.name) (by decide +kernel)) (hts (.static Lib.Math.abs.name) (by decide +kernel)) (hts (.initialized "java/lang/Math") (by decide +kernel)) (hts (.code Lib.Math.abs.name Lib.Math.abs.code 1 (some .int)) (by decide +kernel)) (Nat.le_of_ble_eq_true rfl) (Nat.le_of_ble_eq_true rfl) (by show (_ : Nat) ≤ 8; omega) (by show (_ : Nat) ≤ 32; omega) dX14_raking_47 ?_
          refine lv_topi (fun x_19 ex_19 => ?_)
          obtain rfl : x_19 = 0 := ex_19.trans (by decide)
          refine va_mmax hx hb (hml.trans hl.1.symm) hown (hts (.methodLink RX14 99 Lib.Math.max.name) (by decide +kernel)) (hts (.static Lib.Math.max.name) (by decide +kernel)) (hts (.initialized "java/lang/Math") (by decide +kernel)) (hts (.code Lib.Math.max.name Lib.Math.max.code 2 (some .int)) (by decide +kernel)) (Nat.le_of_ble_eq_true rfl) (Nat.le_of_ble_eq_true rfl) (by show (_ : Nat) ≤ 8; omega) (by show (_ : Nat) ≤ 32; omega) dX14_raking_50 ?_
          refine lv_topi (fun x_20 ex_20 => ?_)
          obtain rfl : x_20 = 0 := ex_20.trans (by decide)
          refine lv_istore_n (lv' := [(2, .int 0), (4, .int r_9), (3, .int (nI k_1)), (0, .ref pic), (1, .int pc)]) hx hb dX14_raking_53 rfl hl (by decide) rfl (fun ls hl => ?_)
          obtain ⟨x_21, ex_21⟩ : ∃ y : Int32, y = (nI k_1) + 1 := ⟨_, rfl⟩
          refine lv_iinc (v := x_21) (lv' := [(3, .int x_21), (2, .int 0), (4, .int r_9), (0, .ref pic), (1, .int pc)]) hx hb dX14_raking_54 hl (k := 2) rfl (by rw [ex_21]; rfl) (by decide) rfl (fun ls hl => ?_)
          have hy : x_21 = nI (k_1 + 1) := by rw [ex_21]; exact nI_1 k_1
          subst hy
          refine lv_goto (tgt := 4) hx hb dX14_raking_57 (by decide) ?_
          refine W.widen (k := 0 + 2 * (k_1 + 1)) (n := 0 + 8 * (k_1 + 1)) (by omega) (by omega) ?_
          exact ih (k_1 + 1) (by omega)  _ _ hP hD hS _ (lv_sub hl [0, 1, 3, 4] rfl)
        · skip
          refine lv_iload_n hx hb dX14_raking_22 rfl (lv_at hl 2 rfl) ?_
          refine lv_goto (tgt := 53) hx hb dX14_raking_23 (by decide) ?_
          refine lv_istore_n (lv' := [(2, .int 0), (4, .int r_9), (3, .int (nI k_1)), (0, .ref pic), (1, .int pc)]) hx hb dX14_raking_53 rfl hl (by decide) rfl (fun ls hl => ?_)
          obtain ⟨x_22, ex_22⟩ : ∃ y : Int32, y = (nI k_1) + 1 := ⟨_, rfl⟩
          refine lv_iinc (v := x_22) (lv' := [(3, .int x_22), (2, .int 0), (4, .int r_9), (0, .ref pic), (1, .int pc)]) hx hb dX14_raking_54 hl (k := 2) rfl (by rw [ex_22]; rfl) (by decide) rfl (fun ls hl => ?_)
          have hy : x_22 = nI (k_1 + 1) := by rw [ex_22]; exact nI_1 k_1
          subst hy
          refine lv_goto (tgt := 4) hx hb dX14_raking_57 (by decide) ?_
          refine W.widen (k := 0 + 2 * (k_1 + 1)) (n := 0 + 8 * (k_1 + 1)) (by omega) (by omega) ?_
          exact ih (k_1 + 1) (by omega)  _ _ hP hD hS _ (lv_sub hl [0, 1, 3, 4] rfl)
  exact loop_4 4 0 rfl  _ _ hP hD hS ls (lv_sub hl [0, 1, 2, 3] rfl)
theorem z_c_X14_view_74 (ray : Int32) (pc : Int32) (a_0 : 0 ≤ pc) (a_1 : pc < 48) (a_2 : ¬ ray = 114) : 0 ≤ pc := by grind
theorem z_c_X14_view_75 (ray : Int32) (pc : Int32) (a_0 : 0 ≤ pc) (a_1 : pc < 48) (a_2 : ¬ ray = 114) : pc < 48 := by grind
theorem z_c_X14_view_76 (ray : Int32) (pc : Int32) (r_4 : Int32) (a_0 : 0 ≤ pc) (a_1 : pc < 48) (a_2 : ¬ ray = 114) (a_3 : r_4 = if ray = 112 then 50 else if ray = 104 then -1 else 0) : r_4 = if ray = 112 then 50 else if ray = 104 then -1 else 0 := by grind
theorem z_c_X14_view_77 (ray : Int32) (pc : Int32) (a_0 : 0 ≤ pc) (a_1 : pc < 48) (a_2 : ray = 114) : 0 ≤ pc := by grind
theorem z_c_X14_view_78 (ray : Int32) (pc : Int32) (a_0 : 0 ≤ pc) (a_1 : pc < 48) (a_2 : ray = 114) : pc < 48 := by grind
theorem z_c_X14_view_79 (ray : Int32) (pc : Int32) (a_0 : 0 ≤ pc) (a_1 : pc < 48) (a_2 : ray = 114) : (0 : Int32) = if ray = 112 then 50 else if ray = 104 then -1 else 0 := by grind
set_option maxHeartbeats 4000000 in
set_option maxRecDepth 100000 in
/-- Picture.view of a new picture -/
theorem c_X14_view (l : Launch) (dC : Nat → ClassId) (dI : Nat → Nat → Nat) (b0 : Nat) (en : EnT) (sz : Nat) (pic ap scr mm : Nat) (g : Nat → Option Nat) (kP : ClassId) (N : Nat → Prop) (ray pc : Int32) (h0 : 0 ≤ pc) (h1 : pc < 48) (hNb : ∀ a, N a → b0 ≤ a ∧ a < sz) (hNw : ∀ a, N a → a ∉ List.map Prod.fst ([] : va_W)) (hNr : ∀ a, N a → a ∉ List.map Prod.fst ([(pic, .inr (20, [.ref ap, .ref scr, .int 1600, .int 0, .int 0, .ref mm])), (ap, .inl (kP, 48, .inr (.inr (.inr (.inr g)))))] : va_W)) : Met l yX14_view wsX14_view ({ frames := 5, cells := 8, slots := 32, locals := 118 } : Room) (cP b0 en (dC, dI) [(kP, .object "UnderpaintModel$Place")] [] [(pic, .inr (20, [.ref ap, .ref scr, .int 1600, .int 0, .int 0, .ref mm])), (ap, .inl (kP, 48, .inr (.inr (.inr (.inr g)))))] sz (FamP (dC, dI) N en.2.2.1 g) [.ref pic, .int ray, .int pc]) (va_Qi (fun (r : Int32) (_ : Unit) => r = if ray = 112 then 50 else if ray = 104 then -1 else 0) (fun _ _ => True) (va_A [] sz)) 8 32 (va_A [] sz) := by
  refine Met.ofW (cc := cX14_view) (maxL := 3) (ret := (some .int)) (by decide) rfl ?_
  intro p e s m args below meth c s₁ B hml hv
  obtain ⟨rfl, hsz, hb0, hE, hPP, hK, hDD, hF0⟩ := hv
  have hx := B.exec
  have hb := B.bytes
  have hr := B.returns
  have hts := atoms_spec (ws := wsX14_view) B.pre
  have hown : s.vm.findClass RX14 = some m.cls := findClass_of_methodNamed B.named
  have hlocks := B.notSynchronized
  subst hsz
  have hN0 := en_N hPP hDD rfl
  have hP : va_P (dC, dI) vwCl [] s.heap := hPP.sub [] rfl
  have hR0 : va_P (dC, dI) vwCl [(pic, .inr (20, [.ref ap, .ref scr, .int 1600, .int 0, .int 0, .ref mm])), (ap, .inl (kP, 48, .inr (.inr (.inr (.inr g)))))] s.heap := hPP.sub [0, 1] rfl
  have hD0 : va_D (fun q => b0 ≤ q) [] := hDD.sub [] (by decide) rfl
  have hDr : va_D (fun q => b0 ≤ q) [(pic, .inr (20, [.ref ap, .ref scr, .int 1600, .int 0, .int 0, .ref mm])), (ap, .inl (kP, 48, .inr (.inr (.inr (.inr g)))))] := hDD.sub [0, 1] (by decide) rfl
  have hAb := en_A (sz := s.heap.size) hD0 hb0
  have hD := hD0.self (sz := s.heap.size)
  generalize hAe : va_A [] s.heap.size = A at hD hAb hN0 ⊢
  have hA : ∀ q : Nat, s.heap.size ≤ q → A q := fun q h => by rw [← hAe]; exact Or.inr h
  have hS : va_S A s.heap s.heap [] := va_S.rf
  have hR := hR0
  have hl := lv_entry [.ref pic, .int ray, .int pc] (n := 3) (Nat.le_of_ble_eq_true rfl)
  rw [lg_entry_eq]
  generalize (lg_sl [.ref pic, .int ray, .int pc] ++ List.replicate (3 - (lg_sl [.ref pic, .int ray, .int pc]).length) Slot.unset).toArray = ls at hl ⊢
  have hl : lv_has ls 3 [(0, .ref pic), (1, .int ray), (2, .int pc)] := hl
  have hR0b := hR0
  have hDrb := hDr
  have hN0b := hN0
  refine lv_iload_n hx hb dX14_view_0 rfl (lv_at hl 1 rfl) ?_
  refine lv_bipush (v := 114) hx hb dX14_view_1 (by decide) ?_
  refine lv_icmp_ne (tgt := 14) hx hb dX14_view_3 (by decide) (fun c_1 => ?_) (fun c_1 => ?_)
  · skip
    refine lv_aload_n hx hb dX14_view_14 rfl (lv_at hl 0 rfl) ?_
    refine va_get (D := (dC, dI)) (ci := 20) (v := .ref ap) (C := RX14) (T := TX14) (N := 6) hx hb hts (by decide +kernel) hown hK hR 0 rfl rfl 0 (by decide) (hts (.fieldLink RX14 17 "UnderpaintModel$Picture" "at" "[LUnderpaintModel$Place;") (by decide +kernel)) (fun _ h9 => h9) rfl dX14_view_15 ?_
    refine lv_iload_n hx hb dX14_view_18 rfl (lv_at hl 2 rfl) ?_
    obtain ⟨i_2, hi_i_2, hx_i_2⟩ := (ix48 (z_c_X14_view_74 ray pc h0 h1 c_1) (z_c_X14_view_75 ray pc h0 h1 c_1))
    refine va_aldq hx hb hK hR 1 0 rfl rfl (pl_in hi_i_2 hx_i_2) dX14_view_19 ?_
    obtain ⟨ap_3, lp_3, hgp_3, hup_3, hvp_3, hnp_3, hmp_3, hdp_3⟩ := hF0 i_2 hi_i_2
    refine lv_topv (w := .ref ap_3) (by rw [pl_cl hi_i_2 hx_i_2, hgp_3]; rfl) ?_
    have hxp_3 : ¬ A ap_3 := by rw [← hAe]; exact vA0 hup_3.lt
    have hyp_3 : ¬ A lp_3 := by rw [← hAe]; exact vA0 hvp_3.lt
    refine lv_iload_n hx hb dX14_view_20 rfl (lv_at hl 1 rfl) ?_
    have hR0 : va_P (dC, dI) vwCl [(pic, .inr (20, [.ref ap, .ref scr, .int 1600, .int 0, .int 0, .ref mm])), (ap, .inl (kP, 48, .inr (.inr (.inr (.inr g))))), (ap_3, .inr (21, [.int (nI i_2), .ref lp_3, .int 0])), (lp_3, .inr (5, [.int 0, .ref en.2.2.1, .int 0]))] s.heap := ((hR0b.app (va1 hup_3)).app (va1 hvp_3))
    have hDr : va_D (fun q => b0 ≤ q) [(pic, .inr (20, [.ref ap, .ref scr, .int 1600, .int 0, .int 0, .ref mm])), (ap, .inl (kP, 48, .inr (.inr (.inr (.inr g))))), (ap_3, .inr (21, [.int (nI i_2), .ref lp_3, .int 0])), (lp_3, .inr (5, [.int 0, .ref en.2.2.1, .int 0]))] := (vD_push (vD_push hDrb (hNb ap_3 hnp_3).1 (nR (hNr ap_3 hnp_3))) (hNb lp_3 hmp_3).1 (vR_push (nR (hNr lp_3 hmp_3)) hdp_3))
    have hN0 : ∀ (k : Nat) (q : Nat × va_E), [(pic, .inr (20, [.ref ap, .ref scr, .int 1600, .int 0, .int 0, .ref mm])), (ap, .inl (kP, 48, .inr (.inr (.inr (.inr g))))), (ap_3, .inr (21, [.int (nI i_2), .ref lp_3, .int 0])), (lp_3, .inr (5, [.int 0, .ref en.2.2.1, .int 0]))][k]? = some q → ¬ A q.1 := (vN_push (vN_push hN0b hxp_3) hyp_3)
    have hR : va_P (dC, dI) vwCl [(pic, .inr (20, [.ref ap, .ref scr, .int 1600, .int 0, .int 0, .ref mm])), (ap, .inl (kP, 48, .inr (.inr (.inr (.inr g))))), (ap_3, .inr (21, [.int (nI i_2), .ref lp_3, .int 0])), (lp_3, .inr (5, [.int 0, .ref en.2.2.1, .int 0]))] s.heap := en_R hR0 hN0 hS
    have hPc := (hP.app hR).sub (ws' := [] ++ [(ap_3, .inr (21, [.int (nI i_2), .ref lp_3, .int 0])), (lp_3, .inr (5, [.int 0, .ref en.2.2.1, .int 0]))]) [2, 3] rfl
    have hDc := (en_DD hD hDr hN0 hAb).sub (ws' := [] ++ [(ap_3, .inr (21, [.int (nI i_2), .ref lp_3, .int 0])), (lp_3, .inr (5, [.int 0, .ref en.2.2.1, .int 0]))]) [2, 3] (by decide) rfl
    have hKc := hK.sub (tys' := []) [] rfl
    have hFc := va_free (wc := []) hD hS hA [] rfl
    refine va_calli (va_runV (As := [.int ray]) (rest := []) ⟨hx, hb, hml, hown, hts⟩ (c_X15_view l dC dI b0 en s.heap.size ap_3 lp_3 (nI i_2) ray) (cwV 1 hts gX14_view_X15_view rfl rfl rfl (by decide +kernel) ⟨Nat.le_of_ble_eq_true rfl, Nat.le_of_ble_eq_true rfl⟩) ⟨cP.blind, va_recv hK hR (ci := 21) (q0 := 2) rfl rfl, cP.use (en_z hb0 hS) (hE.on hAb hS) hPc hKc hDc trivial⟩ rfl rfl hl.1 rfl (lv_room (Nat.le_of_ble_eq_true rfl)) dX14_view_21 ⟨Nat.le_of_ble_eq_true rfl, Nat.le_of_ble_eq_true rfl⟩) hS (fun q _ h => hFc q h) hFc (fun r_4 u t H1 locs ht hvm hw hB hz1 hk1 hS => ?_)
    have hP1 : va_P (dC, dI) vwCl [] H1 := fun k q h => by simp at h
    have hD1 : va_D (va_A [] s.heap.size) [] := ⟨fun i j p q h => by simp at h, fun k q h => by simp at h⟩
    try dsimp only at hw
    obtain ⟨hP, hD⟩ := va_join (wr := []) (w1 := []) hP hD [] [] rfl rfl (by decide) (by decide) hk1 hFc hP1 hD1
    generalize H1 = H at hP hS ⊢
    have hP : va_P (dC, dI) vwCl [] H := hP
    have hD : va_D A [] := hD
    have hR := en_R hR0 hN0 hS
    refine W.widen (k := 1) (n := 4) (Nat.le_of_ble_eq_true rfl) (Nat.le_of_ble_eq_true rfl) ?_
    have h_5 := hw
    refine W.widen (k := 8) (n := 32) (Nat.le_of_ble_eq_true rfl) (Nat.le_of_ble_eq_true rfl) ?_
    exact W.iret (v := r_4) hx hb hr (fun t ht hW => ⟨⟨r_4, (), rfl, (z_c_X14_view_76 ray pc r_4 h0 h1 c_1 h_5), trivial⟩, hS.F ht⟩) hS.2.2 dX14_view_24
  · skip
    refine lv_aload_n hx hb dX14_view_6 rfl (lv_at hl 0 rfl) ?_
    refine lv_iload_n hx hb dX14_view_7 rfl (lv_at hl 2 rfl) ?_
    have hPc := (hP.app hR).sub (ws' := [] ++ [(pic, .inr (20, [.ref ap, .ref scr, .int 1600, .int 0, .int 0, .ref mm])), (ap, .inl (kP, 48, .inr (.inr (.inr (.inr g)))))]) [0, 1] rfl
    have hDc := (en_DD hD hDr hN0 hAb).sub (ws' := [] ++ [(pic, .inr (20, [.ref ap, .ref scr, .int 1600, .int 0, .int 0, .ref mm])), (ap, .inl (kP, 48, .inr (.inr (.inr (.inr g)))))]) [0, 1] (by decide) rfl
    have hKc := hK.sub (tys' := [(kP, .object "UnderpaintModel$Place")]) [0] rfl
    have hFc := va_free (wc := []) hD hS hA [] rfl
    refine va_calli (va_runV (As := [.int pc]) (rest := []) ⟨hx, hb, hml, hown, hts⟩ (c_X14_raking l dC dI b0 en s.heap.size pic ap scr mm g kP N pc (z_c_X14_view_77 ray pc h0 h1 c_1) (z_c_X14_view_78 ray pc h0 h1 c_1) (fun a9 h9 => ⟨(hNb a9 h9).1, Nat.lt_of_lt_of_le (hNb a9 h9).2 hS.1⟩) (fun a9 h9 z9 => by have g1 := hNw a9 h9; have g2 := hNr a9 h9; simp only [List.map_cons, List.map_nil, List.mem_cons, List.not_mem_nil, or_false, not_or] at g1 g2 z9 <;> omega) (fun a9 h9 z9 => by have g1 := hNw a9 h9; have g2 := hNr a9 h9; simp only [List.map_cons, List.map_nil, List.mem_cons, List.not_mem_nil, or_false, not_or] at g1 g2 z9 <;> omega)) (cwV 1 hts gX14_view_X14_raking rfl rfl rfl (by decide +kernel) ⟨Nat.le_of_ble_eq_true rfl, Nat.le_of_ble_eq_true rfl⟩) ⟨cP.blind, va_recv hK hR (ci := 20) (q0 := 0) rfl rfl, cP.use (en_z hb0 hS) (hE.on hAb hS) hPc hKc hDc (hF0.on (fun a9 h8 h9 => by rw [← hAe]; exact vA0 h8) hS)⟩ rfl rfl hl.1 rfl (lv_room (Nat.le_of_ble_eq_true rfl)) dX14_view_8 ⟨Nat.le_of_ble_eq_true rfl, Nat.le_of_ble_eq_true rfl⟩) hS (fun q _ h => hFc q h) hFc (fun r_6 u t H1 locs ht hvm hw hB hz1 hk1 hS => ?_)
    have hP1 : va_P (dC, dI) vwCl [] H1 := fun k q h => by simp at h
    have hD1 : va_D (va_A [] s.heap.size) [] := ⟨fun i j p q h => by simp at h, fun k q h => by simp at h⟩
    try dsimp only at hw
    obtain ⟨hP, hD⟩ := va_join (wr := []) (w1 := []) hP hD [] [] rfl rfl (by decide) (by decide) hk1 hFc hP1 hD1
    generalize H1 = H at hP hS ⊢
    have hP : va_P (dC, dI) vwCl [] H := hP
    have hD : va_D A [] := hD
    have hR := en_R hR0 hN0 hS
    refine W.widen (k := 8) (n := 32) (Nat.le_of_ble_eq_true rfl) (Nat.le_of_ble_eq_true rfl) ?_
    subst r_6
    refine lv_goto (tgt := 24) hx hb dX14_view_11 (by decide) ?_
    refine W.widen (k := 8) (n := 32) (Nat.le_of_ble_eq_true rfl) (Nat.le_of_ble_eq_true rfl) ?_
    exact W.iret (v := 0) hx hb hr (fun t ht hW => ⟨⟨0, (), rfl, (z_c_X14_view_79 ray pc h0 h1 c_1), trivial⟩, hS.F ht⟩) hS.2.2 dX14_view_24
theorem z_c_X18_view_80 (ray : Int32) (x : Int32) (y : Int32) (r_1 : Int32) (a_0 : r_1 = if 0 ≤ ixL 1 ray then 1 else 0) (a_1 : r_1 = 0) : ((1 : Int32) = 0 ∧ ((0 : Int32) = if ray = 112 then 50 else if ray = 104 then -1 else 0) ∧ 0 ≤ ixL 1 ray ∧ (0 ≤ x ∧ x < 8) ∧ (0 ≤ y ∧ y < 6)) ∨ ((1 : Int32) = 1 ∧ ¬ (0 ≤ ixL 1 ray ∧ (0 ≤ x ∧ x < 8) ∧ (0 ≤ y ∧ y < 6))) := by grind
theorem z_c_X18_view_81 (ray : Int32) (x : Int32) (y : Int32) (r_1 : Int32) (r_5 : Int32) (a_0 : r_1 = if 0 ≤ ixL 1 ray then 1 else 0) (a_1 : ¬ r_1 = 0) (a_2 : r_5 = if (0 ≤ x ∧ x < 8) ∧ (0 ≤ y ∧ y < 6) then 1 else 0) (a_3 : r_5 = 0) : ((1 : Int32) = 0 ∧ ((0 : Int32) = if ray = 112 then 50 else if ray = 104 then -1 else 0) ∧ 0 ≤ ixL 1 ray ∧ (0 ≤ x ∧ x < 8) ∧ (0 ≤ y ∧ y < 6)) ∨ ((1 : Int32) = 1 ∧ ¬ (0 ≤ ixL 1 ray ∧ (0 ≤ x ∧ x < 8) ∧ (0 ≤ y ∧ y < 6))) := by grind
theorem z_c_X18_view_82 (ray : Int32) (x : Int32) (y : Int32) (r_1 : Int32) (r_5 : Int32) (x_9 : Int32) (x_10 : Int32) (a_0 : r_1 = if 0 ≤ ixL 1 ray then 1 else 0) (a_1 : ¬ r_1 = 0) (a_2 : r_5 = if (0 ≤ x ∧ x < 8) ∧ (0 ≤ y ∧ y < 6) then 1 else 0) (a_3 : ¬ r_5 = 0) (a_4 : x_9 = 8 * y) (a_5 : x_10 = x_9 + x) : 0 ≤ x_10 := by grind
theorem z_c_X18_view_83 (ray : Int32) (x : Int32) (y : Int32) (r_1 : Int32) (r_5 : Int32) (x_9 : Int32) (x_10 : Int32) (a_0 : r_1 = if 0 ≤ ixL 1 ray then 1 else 0) (a_1 : ¬ r_1 = 0) (a_2 : r_5 = if (0 ≤ x ∧ x < 8) ∧ (0 ≤ y ∧ y < 6) then 1 else 0) (a_3 : ¬ r_5 = 0) (a_4 : x_9 = 8 * y) (a_5 : x_10 = x_9 + x) : x_10 < 48 := by grind
theorem z_c_X18_view_84 (ray : Int32) (x : Int32) (y : Int32) (r_1 : Int32) (r_5 : Int32) (x_9 : Int32) (x_10 : Int32) (r_11 : Int32) (a_0 : r_1 = if 0 ≤ ixL 1 ray then 1 else 0) (a_1 : ¬ r_1 = 0) (a_2 : r_5 = if (0 ≤ x ∧ x < 8) ∧ (0 ≤ y ∧ y < 6) then 1 else 0) (a_3 : ¬ r_5 = 0) (a_4 : x_9 = 8 * y) (a_5 : x_10 = x_9 + x) (a_6 : r_11 = if ray = 112 then 50 else if ray = 104 then -1 else 0) : ((0 : Int32) = 0 ∧ (r_11 = if ray = 112 then 50 else if ray = 104 then -1 else 0) ∧ 0 ≤ ixL 1 ray ∧ (0 ≤ x ∧ x < 8) ∧ (0 ≤ y ∧ y < 6)) ∨ ((0 : Int32) = 1 ∧ ¬ (0 ≤ ixL 1 ray ∧ (0 ≤ x ∧ x < 8) ∧ (0 ≤ y ∧ y < 6))) := by grind
set_option maxHeartbeats 4000000 in
set_option maxRecDepth 100000 in
theorem c_X18_view (l : Launch) (dC : Nat → ClassId) (dI : Nat → Nat → Nat) (b0 : Nat) (en : EnT) (sz : Nat) (mm stu cla pic act nts isn boa mas pai sol bal leg : Nat) (ap scr : Nat) (g : Nat → Option Nat) (kP : ClassId) (N : Nat → Prop) (ray x y : Int32) (hNb : ∀ a, N a → b0 ≤ a ∧ a < sz) (hNw : ∀ a, N a → a ∉ List.map Prod.fst ([(mm, .inr (24, [.int 0, .ref stu, .ref cla, .ref pic, .ref act, .int 5, .int 50, .ref nts, .ref isn, .int 1600, .ref boa, .ref mas, .ref pai, .ref sol, .int 0, .ref bal, .ref leg]))] : va_W)) (hNr : ∀ a, N a → a ∉ List.map Prod.fst ([(pic, .inr (20, [.ref ap, .ref scr, .int 1600, .int 0, .int 0, .ref mm])), (ap, .inl (kP, 48, .inr (.inr (.inr (.inr g)))))] : va_W)) : Met l yX18_view wsX18_view ({ frames := 6, cells := 8, slots := 32, locals := 151 } : Room) (cP b0 en (dC, dI) [(kP, .object "UnderpaintModel$Place")] [(mm, .inr (24, [.int 0, .ref stu, .ref cla, .ref pic, .ref act, .int 5, .int 50, .ref nts, .ref isn, .int 1600, .ref boa, .ref mas, .ref pai, .ref sol, .int 0, .ref bal, .ref leg]))] [(pic, .inr (20, [.ref ap, .ref scr, .int 1600, .int 0, .int 0, .ref mm])), (ap, .inl (kP, 48, .inr (.inr (.inr (.inr g)))))] sz (FamP (dC, dI) N en.2.2.1 g) [.ref mm, .int ray, .int x, .int y]) (va_Qi (fun (r : Int32) (u : Int32 × List Value) => (u.1 = 0 ∧ (r = if ray = 112 then 50 else if ray = 104 then -1 else 0) ∧ 0 ≤ ixL 1 ray ∧ (0 ≤ x ∧ x < 8) ∧ (0 ≤ y ∧ y < 6)) ∨ (u.1 = 1 ∧ ¬ (0 ≤ ixL 1 ray ∧ (0 ≤ x ∧ x < 8) ∧ (0 ≤ y ∧ y < 6)))) (fun u t => cB (dC, dI) [] [(mm, .inr (24, .int u.1 :: u.2))] (va_A [(mm, .inr (24, [.int 0, .ref stu, .ref cla, .ref pic, .ref act, .int 5, .int 50, .ref nts, .ref isn, .int 1600, .ref boa, .ref mas, .ref pai, .ref sol, .int 0, .ref bal, .ref leg]))] sz) (fun _ => True) t) (va_A [(mm, .inr (24, [.int 0, .ref stu, .ref cla, .ref pic, .ref act, .int 5, .int 50, .ref nts, .ref isn, .int 1600, .ref boa, .ref mas, .ref pai, .ref sol, .int 0, .ref bal, .ref leg]))] sz)) 8 32 (va_A [(mm, .inr (24, [.int 0, .ref stu, .ref cla, .ref pic, .ref act, .int 5, .int 50, .ref nts, .ref isn, .int 1600, .ref boa, .ref mas, .ref pai, .ref sol, .int 0, .ref bal, .ref leg]))] sz) := by
  refine Met.ofW (cc := cX18_view) (maxL := 4) (ret := (some .int)) (by decide) rfl ?_
  intro p e s m args below meth c s₁ B hml hv
  obtain ⟨rfl, hsz, hb0, hE, hPP, hK, hDD, hF0⟩ := hv
  have hx := B.exec
  have hb := B.bytes
  have hr := B.returns
  have hts := atoms_spec (ws := wsX18_view) B.pre
  have hown : s.vm.findClass RX18 = some m.cls := findClass_of_methodNamed B.named
  have hlocks := B.notSynchronized
  subst hsz
  have hN0 := en_N hPP hDD rfl
  have hP : va_P (dC, dI) vwCl [(mm, .inr (24, [.int 0, .ref stu, .ref cla, .ref pic, .ref act, .int 5, .int 50, .ref nts, .ref isn, .int 1600, .ref boa, .ref mas, .ref pai, .ref sol, .int 0, .ref bal, .ref leg]))] s.heap := hPP.sub [0] rfl
  have hR0 : va_P (dC, dI) vwCl [(pic, .inr (20, [.ref ap, .ref scr, .int 1600, .int 0, .int 0, .ref mm])), (ap, .inl (kP, 48, .inr (.inr (.inr (.inr g)))))] s.heap := hPP.sub [1, 2] rfl
  have hD0 : va_D (fun q => b0 ≤ q) [(mm, .inr (24, [.int 0, .ref stu, .ref cla, .ref pic, .ref act, .int 5, .int 50, .ref nts, .ref isn, .int 1600, .ref boa, .ref mas, .ref pai, .ref sol, .int 0, .ref bal, .ref leg]))] := hDD.sub [0] (by decide) rfl
  have hDr : va_D (fun q => b0 ≤ q) [(pic, .inr (20, [.ref ap, .ref scr, .int 1600, .int 0, .int 0, .ref mm])), (ap, .inl (kP, 48, .inr (.inr (.inr (.inr g)))))] := hDD.sub [1, 2] (by decide) rfl
  have hAb := en_A (sz := s.heap.size) hD0 hb0
  have hD := hD0.self (sz := s.heap.size)
  generalize hAe : va_A [(mm, .inr (24, [.int 0, .ref stu, .ref cla, .ref pic, .ref act, .int 5, .int 50, .ref nts, .ref isn, .int 1600, .ref boa, .ref mas, .ref pai, .ref sol, .int 0, .ref bal, .ref leg]))] s.heap.size = A at hD hAb hN0 ⊢
  have hA : ∀ q : Nat, s.heap.size ≤ q → A q := fun q h => by rw [← hAe]; exact Or.inr h
  have hS : va_S A s.heap s.heap [] := va_S.rf
  have hR := hR0
  have hl := lv_entry [.ref mm, .int ray, .int x, .int y] (n := 4) (Nat.le_of_ble_eq_true rfl)
  rw [lg_entry_eq]
  generalize (lg_sl [.ref mm, .int ray, .int x, .int y] ++ List.replicate (4 - (lg_sl [.ref mm, .int ray, .int x, .int y]).length) Slot.unset).toArray = ls at hl ⊢
  have hl : lv_has ls 4 [(0, .ref mm), (1, .int ray), (2, .int x), (3, .int y)] := hl
  have hR0b := hR0
  have hDrb := hDr
  have hN0b := hN0
  refine lv_aload_n hx hb dX18_view_0 rfl (lv_at hl 0 rfl) ?_
  refine lv_iconst (v := 0) hx hb dX18_view_1 (by decide) ?_
  refine va_put (D := (dC, dI)) (ci := 24) (v := .int 0) (ty := .int) (C := RX18) (T := TX18) (N := 17) hx hb hts (by decide +kernel) tyX18 tyX18_ok nmX18 hown hK hP hD hS 0 rfl rfl 0 (by decide) (hts (.fieldLink RX18 67 "UnderpaintModel" "code" "I") (by decide +kernel)) (fun _ h9 => h9) rfl (by decide +kernel) rfl rfl (Nat.le_of_ble_eq_true rfl) dX18_view_2 (fun H locs hP hD hS => ?_)
  have hP : va_P (dC, dI) vwCl [(mm, .inr (24, [.int 0, .ref stu, .ref cla, .ref pic, .ref act, .int 5, .int 50, .ref nts, .ref isn, .int 1600, .ref boa, .ref mas, .ref pai, .ref sol, .int 0, .ref bal, .ref leg]))] H := hP
  have hD : va_D A [(mm, .inr (24, [.int 0, .ref stu, .ref cla, .ref pic, .ref act, .int 5, .int 50, .ref nts, .ref isn, .int 1600, .ref boa, .ref mas, .ref pai, .ref sol, .int 0, .ref bal, .ref leg]))] := hD
  have hR := en_R hR0 hN0 hS
  refine lv_iload_n hx hb dX18_view_5 rfl (lv_at hl 1 rfl) ?_
  have hPc := (hP.app hR).sub (ws' := [] ++ []) [] rfl
  have hDc := (en_DD hD hDr hN0 hAb).sub (ws' := [] ++ []) [] (by decide) rfl
  have hKc := hK.sub (tys' := []) [] rfl
  have hFc := va_free (wc := []) hD hS hA [] rfl
  refine va_calli (va_runS (As := [.int ray]) (rest := []) ⟨hx, hb, hml, hown, hts⟩ (c_X18_isRay l dC dI b0 en H.size ray) (va_cwS 1 hts gX18_view_X18_isRay rfl rfl rfl (by decide +kernel) ⟨Nat.le_of_ble_eq_true rfl, Nat.le_of_ble_eq_true rfl⟩) ⟨cP.blind, cP.use (en_z hb0 hS) (hE.on hAb hS) hPc hKc hDc trivial⟩ rfl rfl hl.1 rfl (lv_room (Nat.le_of_ble_eq_true rfl)) dX18_view_6 ⟨Nat.le_of_ble_eq_true rfl, Nat.le_of_ble_eq_true rfl⟩) hS (fun q _ h => hFc q h) hFc (fun r_1 u t H1 locs ht hvm hw hB hz1 hk1 hS => ?_)
  have hP1 : va_P (dC, dI) vwCl [] H1 := fun k q h => by simp at h
  have hD1 : va_D (va_A [] H.size) [] := ⟨fun i j p q h => by simp at h, fun k q h => by simp at h⟩
  try dsimp only at hw
  obtain ⟨hP, hD⟩ := va_join (wr := [(mm, .inr (24, [.int 0, .ref stu, .ref cla, .ref pic, .ref act, .int 5, .int 50, .ref nts, .ref isn, .int 1600, .ref boa, .ref mas, .ref pai, .ref sol, .int 0, .ref bal, .ref leg]))]) (w1 := []) hP hD [] [0] rfl rfl (by decide) (by decide) hk1 hFc hP1 hD1
  generalize H1 = H at hP hS ⊢
  have hP : va_P (dC, dI) vwCl [(mm, .inr (24, [.int 0, .ref stu, .ref cla, .ref pic, .ref act, .int 5, .int 50, .ref nts, .ref isn, .int 1600, .ref boa, .ref mas, .ref pai, .ref sol, .int 0, .ref bal, .ref leg]))] H := hP
  have hD : va_D A [(mm, .inr (24, [.int 0, .ref stu, .ref cla, .ref pic, .ref act, .int 5, .int 50, .ref nts, .ref isn, .int 1600, .ref boa, .ref mas, .ref pai, .ref sol, .int 0, .ref bal, .ref leg]))] := hD
  have hR := en_R hR0 hN0 hS
  refine W.widen (k := 0) (n := 0) (Nat.le_of_ble_eq_true rfl) (Nat.le_of_ble_eq_true rfl) ?_
  have h_2 := hw
  refine lv_if_eq (tgt := 37) hx hb dX18_view_9 (by decide) (fun c_3 => ?_) (fun c_3 => ?_)
  · skip
    refine lv_aload_n hx hb dX18_view_37 rfl (lv_at hl 0 rfl) ?_
    refine lv_iconst (v := 1) hx hb dX18_view_38 (by decide) ?_
    have hPc := (hP.app hR).sub (ws' := [(mm, .inr (24, .int 0 :: ([.ref stu, .ref cla, .ref pic, .ref act, .int 5, .int 50, .ref nts, .ref isn, .int 1600, .ref boa, .ref mas, .ref pai, .ref sol, .int 0, .ref bal, .ref leg])))] ++ []) [0] rfl
    have hDc := (en_DD hD hDr hN0 hAb).sub (ws' := [(mm, .inr (24, .int 0 :: ([.ref stu, .ref cla, .ref pic, .ref act, .int 5, .int 50, .ref nts, .ref isn, .int 1600, .ref boa, .ref mas, .ref pai, .ref sol, .int 0, .ref bal, .ref leg])))] ++ []) [0] (by decide) rfl
    have hKc := hK.sub (tys' := []) [] rfl
    have hFc := va_free (wc := [(mm, .inr (24, .int 0 :: ([.ref stu, .ref cla, .ref pic, .ref act, .int 5, .int 50, .ref nts, .ref isn, .int 1600, .ref boa, .ref mas, .ref pai, .ref sol, .int 0, .ref bal, .ref leg])))]) hD hS hA [0] rfl
    refine va_calli (va_runV (As := [.int 1]) (rest := []) ⟨hx, hb, hml, hown, hts⟩ (c_X18_fails l dC dI b0 en H.size mm 0 1 ([.ref stu, .ref cla, .ref pic, .ref act, .int 5, .int 50, .ref nts, .ref isn, .int 1600, .ref boa, .ref mas, .ref pai, .ref sol, .int 0, .ref bal, .ref leg])) (cwV 1 hts gX18_view_X18_fails rfl rfl rfl (by decide +kernel) ⟨Nat.le_of_ble_eq_true rfl, Nat.le_of_ble_eq_true rfl⟩) ⟨cP.blind, va_recv hK hP (ci := 24) (q0 := 0) rfl rfl, cP.use (en_z hb0 hS) (hE.on hAb hS) hPc hKc hDc trivial⟩ rfl rfl hl.1 rfl (lv_room (Nat.le_of_ble_eq_true rfl)) dX18_view_39 ⟨Nat.le_of_ble_eq_true rfl, Nat.le_of_ble_eq_true rfl⟩) hS (fun q _ h => hFc q h) hFc (fun r_4 u t H1 locs ht hvm hw hB hz1 hk1 hS => ?_)
    obtain ⟨hP1, hK1, hD1, hF1⟩ := hB
    rw [ht] at hP1
    try rw [ht] at hF1
    have hK1 := va_K.moved hvm.symm hK1
    try dsimp only at hw
    obtain ⟨hP, hD⟩ := va_join (wr := []) (w1 := [(mm, .inr (24, [.int 1, .ref stu, .ref cla, .ref pic, .ref act, .int 5, .int 50, .ref nts, .ref isn, .int 1600, .ref boa, .ref mas, .ref pai, .ref sol, .int 0, .ref bal, .ref leg]))]) hP hD [0] [] rfl rfl (by decide) (by decide) hk1 hFc hP1 hD1
    generalize H1 = H at hP hS ⊢
    have hP : va_P (dC, dI) vwCl [(mm, .inr (24, [.int 1, .ref stu, .ref cla, .ref pic, .ref act, .int 5, .int 50, .ref nts, .ref isn, .int 1600, .ref boa, .ref mas, .ref pai, .ref sol, .int 0, .ref bal, .ref leg]))] H := hP
    have hD : va_D A [(mm, .inr (24, [.int 1, .ref stu, .ref cla, .ref pic, .ref act, .int 5, .int 50, .ref nts, .ref isn, .int 1600, .ref boa, .ref mas, .ref pai, .ref sol, .int 0, .ref bal, .ref leg]))] := hD
    have hR := en_R hR0 hN0 hS
    refine W.widen (k := 0) (n := 0) (Nat.le_of_ble_eq_true rfl) (Nat.le_of_ble_eq_true rfl) ?_
    subst r_4
    refine W.widen (k := 8) (n := 32) (Nat.le_of_ble_eq_true rfl) (Nat.le_of_ble_eq_true rfl) ?_
    exact W.iret (v := 0) hx hb hr (fun t ht hW => ⟨⟨0, ⟨1, [.ref stu, .ref cla, .ref pic, .ref act, .int 5, .int 50, .ref nts, .ref isn, .int 1600, .ref boa, .ref mas, .ref pai, .ref sol, .int 0, .ref bal, .ref leg]⟩, rfl, (z_c_X18_view_80 ray x y r_1 h_2 c_3), cB.mk ht hW (hP.sub [0] rfl) (hK.sub [] rfl) (hD.sub [0] (by decide) rfl) (trivial)⟩, hS.F ht⟩) hS.2.2 dX18_view_42
  · skip
    refine lv_iload_n hx hb dX18_view_12 rfl (lv_at hl 2 rfl) ?_
    refine lv_iload_n hx hb dX18_view_13 rfl (lv_at hl 3 rfl) ?_
    have hPc := (hP.app hR).sub (ws' := [] ++ []) [] rfl
    have hDc := (en_DD hD hDr hN0 hAb).sub (ws' := [] ++ []) [] (by decide) rfl
    have hKc := hK.sub (tys' := []) [] rfl
    have hFc := va_free (wc := []) hD hS hA [] rfl
    refine va_calli (va_runS (As := [.int x, .int y]) (rest := []) ⟨hx, hb, hml, hown, hts⟩ (c_X18_isPlace l dC dI b0 en H.size x y) (va_cwS 2 hts gX18_view_X18_isPlace rfl rfl rfl (by decide +kernel) ⟨Nat.le_of_ble_eq_true rfl, Nat.le_of_ble_eq_true rfl⟩) ⟨cP.blind, cP.use (en_z hb0 hS) (hE.on hAb hS) hPc hKc hDc trivial⟩ rfl rfl hl.1 rfl (lv_room (Nat.le_of_ble_eq_true rfl)) dX18_view_14 ⟨Nat.le_of_ble_eq_true rfl, Nat.le_of_ble_eq_true rfl⟩) hS (fun q _ h => hFc q h) hFc (fun r_5 u t H1 locs ht hvm hw hB hz1 hk1 hS => ?_)
    have hP1 : va_P (dC, dI) vwCl [] H1 := fun k q h => by simp at h
    have hD1 : va_D (va_A [] H.size) [] := ⟨fun i j p q h => by simp at h, fun k q h => by simp at h⟩
    try dsimp only at hw
    obtain ⟨hP, hD⟩ := va_join (wr := [(mm, .inr (24, [.int 0, .ref stu, .ref cla, .ref pic, .ref act, .int 5, .int 50, .ref nts, .ref isn, .int 1600, .ref boa, .ref mas, .ref pai, .ref sol, .int 0, .ref bal, .ref leg]))]) (w1 := []) hP hD [] [0] rfl rfl (by decide) (by decide) hk1 hFc hP1 hD1
    generalize H1 = H at hP hS ⊢
    have hP : va_P (dC, dI) vwCl [(mm, .inr (24, [.int 0, .ref stu, .ref cla, .ref pic, .ref act, .int 5, .int 50, .ref nts, .ref isn, .int 1600, .ref boa, .ref mas, .ref pai, .ref sol, .int 0, .ref bal, .ref leg]))] H := hP
    have hD : va_D A [(mm, .inr (24, [.int 0, .ref stu, .ref cla, .ref pic, .ref act, .int 5, .int 50, .ref nts, .ref isn, .int 1600, .ref boa, .ref mas, .ref pai, .ref sol, .int 0, .ref bal, .ref leg]))] := hD
    have hR := en_R hR0 hN0 hS
    refine W.widen (k := 0) (n := 0) (Nat.le_of_ble_eq_true rfl) (Nat.le_of_ble_eq_true rfl) ?_
    have h_6 := hw
    refine lv_if_eq (tgt := 37) hx hb dX18_view_17 (by decide) (fun c_7 => ?_) (fun c_7 => ?_)
    · skip
      refine lv_aload_n hx hb dX18_view_37 rfl (lv_at hl 0 rfl) ?_
      refine lv_iconst (v := 1) hx hb dX18_view_38 (by decide) ?_
      have hPc := (hP.app hR).sub (ws' := [(mm, .inr (24, .int 0 :: ([.ref stu, .ref cla, .ref pic, .ref act, .int 5, .int 50, .ref nts, .ref isn, .int 1600, .ref boa, .ref mas, .ref pai, .ref sol, .int 0, .ref bal, .ref leg])))] ++ []) [0] rfl
      have hDc := (en_DD hD hDr hN0 hAb).sub (ws' := [(mm, .inr (24, .int 0 :: ([.ref stu, .ref cla, .ref pic, .ref act, .int 5, .int 50, .ref nts, .ref isn, .int 1600, .ref boa, .ref mas, .ref pai, .ref sol, .int 0, .ref bal, .ref leg])))] ++ []) [0] (by decide) rfl
      have hKc := hK.sub (tys' := []) [] rfl
      have hFc := va_free (wc := [(mm, .inr (24, .int 0 :: ([.ref stu, .ref cla, .ref pic, .ref act, .int 5, .int 50, .ref nts, .ref isn, .int 1600, .ref boa, .ref mas, .ref pai, .ref sol, .int 0, .ref bal, .ref leg])))]) hD hS hA [0] rfl
      refine va_calli (va_runV (As := [.int 1]) (rest := []) ⟨hx, hb, hml, hown, hts⟩ (c_X18_fails l dC dI b0 en H.size mm 0 1 ([.ref stu, .ref cla, .ref pic, .ref act, .int 5, .int 50, .ref nts, .ref isn, .int 1600, .ref boa, .ref mas, .ref pai, .ref sol, .int 0, .ref bal, .ref leg])) (cwV 1 hts gX18_view_X18_fails rfl rfl rfl (by decide +kernel) ⟨Nat.le_of_ble_eq_true rfl, Nat.le_of_ble_eq_true rfl⟩) ⟨cP.blind, va_recv hK hP (ci := 24) (q0 := 0) rfl rfl, cP.use (en_z hb0 hS) (hE.on hAb hS) hPc hKc hDc trivial⟩ rfl rfl hl.1 rfl (lv_room (Nat.le_of_ble_eq_true rfl)) dX18_view_39 ⟨Nat.le_of_ble_eq_true rfl, Nat.le_of_ble_eq_true rfl⟩) hS (fun q _ h => hFc q h) hFc (fun r_8 u t H1 locs ht hvm hw hB hz1 hk1 hS => ?_)
      obtain ⟨hP1, hK1, hD1, hF1⟩ := hB
      rw [ht] at hP1
      try rw [ht] at hF1
      have hK1 := va_K.moved hvm.symm hK1
      try dsimp only at hw
      obtain ⟨hP, hD⟩ := va_join (wr := []) (w1 := [(mm, .inr (24, [.int 1, .ref stu, .ref cla, .ref pic, .ref act, .int 5, .int 50, .ref nts, .ref isn, .int 1600, .ref boa, .ref mas, .ref pai, .ref sol, .int 0, .ref bal, .ref leg]))]) hP hD [0] [] rfl rfl (by decide) (by decide) hk1 hFc hP1 hD1
      generalize H1 = H at hP hS ⊢
      have hP : va_P (dC, dI) vwCl [(mm, .inr (24, [.int 1, .ref stu, .ref cla, .ref pic, .ref act, .int 5, .int 50, .ref nts, .ref isn, .int 1600, .ref boa, .ref mas, .ref pai, .ref sol, .int 0, .ref bal, .ref leg]))] H := hP
      have hD : va_D A [(mm, .inr (24, [.int 1, .ref stu, .ref cla, .ref pic, .ref act, .int 5, .int 50, .ref nts, .ref isn, .int 1600, .ref boa, .ref mas, .ref pai, .ref sol, .int 0, .ref bal, .ref leg]))] := hD
      have hR := en_R hR0 hN0 hS
      refine W.widen (k := 0) (n := 0) (Nat.le_of_ble_eq_true rfl) (Nat.le_of_ble_eq_true rfl) ?_
      subst r_8
      refine W.widen (k := 8) (n := 32) (Nat.le_of_ble_eq_true rfl) (Nat.le_of_ble_eq_true rfl) ?_
      exact W.iret (v := 0) hx hb hr (fun t ht hW => ⟨⟨0, ⟨1, [.ref stu, .ref cla, .ref pic, .ref act, .int 5, .int 50, .ref nts, .ref isn, .int 1600, .ref boa, .ref mas, .ref pai, .ref sol, .int 0, .ref bal, .ref leg]⟩, rfl, (z_c_X18_view_81 ray x y r_1 r_5 h_2 c_3 h_6 c_7), cB.mk ht hW (hP.sub [0] rfl) (hK.sub [] rfl) (hD.sub [0] (by decide) rfl) (trivial)⟩, hS.F ht⟩) hS.2.2 dX18_view_42
    · skip
      refine lv_aload_n hx hb dX18_view_20 rfl (lv_at hl 0 rfl) ?_
      refine va_get (D := (dC, dI)) (ci := 24) (v := .ref pic) (C := RX18) (T := TX18) (N := 17) hx hb hts (by decide +kernel) hown hK hP 0 rfl rfl 3 (by decide) (hts (.fieldLink RX18 25 "UnderpaintModel" "picture" "LUnderpaintModel$Picture;") (by decide +kernel)) (fun _ h9 => h9) rfl dX18_view_21 ?_
      refine lv_iload_n hx hb dX18_view_24 rfl (lv_at hl 1 rfl) ?_
      refine lv_bipush (v := 8) hx hb dX18_view_25 (by decide) ?_
      refine lv_iload_n hx hb dX18_view_27 rfl (lv_at hl 3 rfl) ?_
      refine lv_imul hx hb dX18_view_28 ?_
      refine lv_topi (fun x_9 ex_9 => ?_)
      refine lv_iload_n hx hb dX18_view_29 rfl (lv_at hl 2 rfl) ?_
      refine lv_iadd hx hb dX18_view_30 ?_
      refine lv_topi (fun x_10 ex_10 => ?_)
      have hPc := (hP.app hR).sub (ws' := [] ++ [(pic, .inr (20, [.ref ap, .ref scr, .int 1600, .int 0, .int 0, .ref mm])), (ap, .inl (kP, 48, .inr (.inr (.inr (.inr g)))))]) [1, 2] rfl
      have hDc := (en_DD hD hDr hN0 hAb).sub (ws' := [] ++ [(pic, .inr (20, [.ref ap, .ref scr, .int 1600, .int 0, .int 0, .ref mm])), (ap, .inl (kP, 48, .inr (.inr (.inr (.inr g)))))]) [1, 2] (by decide) rfl
      have hKc := hK.sub (tys' := [(kP, .object "UnderpaintModel$Place")]) [0] rfl
      have hFc := va_free (wc := []) hD hS hA [] rfl
      refine va_calli (va_runV (As := [.int ray, .int x_10]) (rest := []) ⟨hx, hb, hml, hown, hts⟩ (c_X14_view l dC dI b0 en H.size pic ap scr mm g kP N ray x_10 (z_c_X18_view_82 ray x y r_1 r_5 x_9 x_10 h_2 c_3 h_6 c_7 ex_9 ex_10) (z_c_X18_view_83 ray x y r_1 r_5 x_9 x_10 h_2 c_3 h_6 c_7 ex_9 ex_10) (fun a9 h9 => ⟨(hNb a9 h9).1, Nat.lt_of_lt_of_le (hNb a9 h9).2 hS.1⟩) (fun a9 h9 z9 => by have g1 := hNw a9 h9; have g2 := hNr a9 h9; simp only [List.map_cons, List.map_nil, List.mem_cons, List.not_mem_nil, or_false, not_or] at g1 g2 z9 <;> omega) (fun a9 h9 z9 => by have g1 := hNw a9 h9; have g2 := hNr a9 h9; simp only [List.map_cons, List.map_nil, List.mem_cons, List.not_mem_nil, or_false, not_or] at g1 g2 z9 <;> omega)) (cwV 2 hts gX18_view_X14_view rfl rfl rfl (by decide +kernel) ⟨Nat.le_of_ble_eq_true rfl, Nat.le_of_ble_eq_true rfl⟩) ⟨cP.blind, va_recv hK hR (ci := 20) (q0 := 0) rfl rfl, cP.use (en_z hb0 hS) (hE.on hAb hS) hPc hKc hDc (hF0.on (fun a9 h8 h9 => by rw [← hAe]; exact vA1 h8 (hNw a9 h9)) hS)⟩ rfl rfl hl.1 rfl (lv_room (Nat.le_of_ble_eq_true rfl)) dX18_view_31 ⟨Nat.le_of_ble_eq_true rfl, Nat.le_of_ble_eq_true rfl⟩) hS (fun q _ h => hFc q h) hFc (fun r_11 u t H1 locs ht hvm hw hB hz1 hk1 hS => ?_)
      have hP1 : va_P (dC, dI) vwCl [] H1 := fun k q h => by simp at h
      have hD1 : va_D (va_A [] H.size) [] := ⟨fun i j p q h => by simp at h, fun k q h => by simp at h⟩
      try dsimp only at hw
      obtain ⟨hP, hD⟩ := va_join (wr := [(mm, .inr (24, [.int 0, .ref stu, .ref cla, .ref pic, .ref act, .int 5, .int 50, .ref nts, .ref isn, .int 1600, .ref boa, .ref mas, .ref pai, .ref sol, .int 0, .ref bal, .ref leg]))]) (w1 := []) hP hD [] [0] rfl rfl (by decide) (by decide) hk1 hFc hP1 hD1
      generalize H1 = H at hP hS ⊢
      have hP : va_P (dC, dI) vwCl [(mm, .inr (24, [.int 0, .ref stu, .ref cla, .ref pic, .ref act, .int 5, .int 50, .ref nts, .ref isn, .int 1600, .ref boa, .ref mas, .ref pai, .ref sol, .int 0, .ref bal, .ref leg]))] H := hP
      have hD : va_D A [(mm, .inr (24, [.int 0, .ref stu, .ref cla, .ref pic, .ref act, .int 5, .int 50, .ref nts, .ref isn, .int 1600, .ref boa, .ref mas, .ref pai, .ref sol, .int 0, .ref bal, .ref leg]))] := hD
      have hR := en_R hR0 hN0 hS
      refine W.widen (k := 8) (n := 32) (Nat.le_of_ble_eq_true rfl) (Nat.le_of_ble_eq_true rfl) ?_
      have h_12 := hw
      refine lv_goto (tgt := 42) hx hb dX18_view_34 (by decide) ?_
      refine W.widen (k := 8) (n := 32) (Nat.le_of_ble_eq_true rfl) (Nat.le_of_ble_eq_true rfl) ?_
      exact W.iret (v := r_11) hx hb hr (fun t ht hW => ⟨⟨r_11, ⟨0, [.ref stu, .ref cla, .ref pic, .ref act, .int 5, .int 50, .ref nts, .ref isn, .int 1600, .ref boa, .ref mas, .ref pai, .ref sol, .int 0, .ref bal, .ref leg]⟩, rfl, (z_c_X18_view_84 ray x y r_1 r_5 x_9 x_10 r_11 h_2 c_3 h_6 c_7 ex_9 ex_10 h_12), cB.mk ht hW (hP.sub [0] rfl) (hK.sub [] rfl) (hD.sub [0] (by decide) rfl) (trivial)⟩, hS.F ht⟩) hS.2.2 dX18_view_42
